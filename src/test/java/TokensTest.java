/** Where the fault of a text is: each letter, each token too few, too many, or of another kind. */
public final class TokensTest {
    private static final int NONE = WeaveDraft.NONE;
    private static final String[] CLAUSES = {"draft 2 3 1 2", "draw 3 1", "tie 1 0", "tread 2 1", "warp 0 9", "weft 3 0", "clear", "row xo"};
    private static final String[] NEITHER = {".", ",", "-", "X", "R", "\t", "\n", String.valueOf((char) 0), String.valueOf((char) 160), String.valueOf((char) 255)};

    public static void main(String[] args) {
        everyClauseStands();
        endsTooSoon();
        endsTooSoonBehindAnother();
        tokenOfAnotherKind();
        tokenTooMany();
        everyLetterAhead();
        everyLetterBehindAWord();
        everyLetterBehindANumber();
        everyLetterOfAWord();
        everyLetterOfARow();
        wordsNearlyAsTold();
        digits();
        blanks();
        blanksThatAreNeeded();
        boundsOfEachNumber();
        boundsByTheDraftToldAhead();
        boundsByTheDraftThatIsThere();
        firstFaultIsTold();
        oldLettersAreNotRead();
        askedOnly();
        Check.finish();
    }

    private static void faultAt(String text, int place) {
        Check.faultAt(new WeaveDraft(), text, place);
    }

    private static void everyClauseStands() {
        for (String clause : CLAUSES) {
            faultAt(clause, NONE);
            Check.told(clause);
        }
    }

    /** 'or at the end, if it comes too soon', 'or the length'. */
    private static void endsTooSoon() {
        faultAt("", 0);
        faultAt(" ", 1);
        faultAt(" ".repeat(7), 7);
        for (String clause : CLAUSES) {
            tooSoon("", clause);
        }
    }

    /** Behind a ; a clause must come. */
    private static void endsTooSoonBehindAnother() {
        for (String clause : CLAUSES) {
            faultAt("clear;", 6);
            faultAt(clause + ";", clause.length() + 1);
            faultAt(clause + ";  ", clause.length() + 3);
            faultAt(clause + " ; ", clause.length() + 3);
            tooSoon("warp 0 1;", clause);
        }
    }

    private static void tooSoon(String ahead, String clause) {
        String[] tokens = clause.split(" ");
        String told = ahead;
        for (int i = 0; i < tokens.length - 1; i++) {
            told += tokens[i];
            faultAt(told, told.length());
            faultAt(told + "   ", told.length() + 3);
            told += " ";
            WeaveDraft x = new WeaveDraft();
            Check.write(x, told);
            Check.due("draft() of '" + told + "'", x.draft(), WeaveDraft.NOT);
        }
    }

    /** 'the first TOKEN that cannot stand there', at 'the letter with which the TOKEN begins'. */
    private static void tokenOfAnotherKind() {
        for (String clause : CLAUSES) {
            String[] tokens = clause.split(" ");
            String ahead = "  ";
            for (int i = 0; i < tokens.length; i++) {
                String rest = clause.substring(ahead.length() - 2 + tokens[i].length());
                boolean isWord = Character.isLetter(tokens[i].charAt(0));
                faultAt(ahead + (isWord ? "1" : "x") + rest, ahead.length());
                faultAt(ahead + (isWord ? "123" : "draft") + rest, ahead.length());
                faultAt(ahead + "q" + rest, ahead.length());
                faultAt(ahead + ";" + rest, ahead.length());
                for (String sign : NEITHER) {
                    faultAt(ahead + sign + rest, ahead.length());
                    faultAt(ahead + sign + tokens[i] + rest, ahead.length());
                }
                ahead += tokens[i] + " ";
            }
        }
    }

    private static void tokenTooMany() {
        for (String clause : CLAUSES) {
            int length = clause.length();
            faultAt(clause + " 0", length + 1);
            faultAt(clause + " x", length + 1);
            faultAt(clause + " clear", length + 1);
            faultAt(clause + " 0;clear", length + 1);
            faultAt(clause + ";;", length + 1);
            faultAt(clause + "; ;clear", length + 2);
            faultAt(clause + ";0", length + 1);
            faultAt(clause + ";clear;", length + 7);
            for (String sign : NEITHER) {
                faultAt(clause + sign, length);
                faultAt(clause + " " + sign + ";clear", length + 1);
                faultAt(clause + ";" + sign, length + 1);
            }
        }
    }

    private static boolean isSmall(int letter) {
        return letter >= 97 && letter <= 122;
    }

    private static boolean isDigit(int letter) {
        return letter >= 48 && letter <= 57;
    }

    private static void everyLetterAhead() {
        for (int letter = 0; letter < 256; letter++) {
            faultAt((char) letter + "clear", letter == 32 ? NONE : 0);
            faultAt("clear;" + (char) letter + " clear", letter == 32 ? NONE : 6);
        }
    }

    /** 'a row of small letters, a row of digits, any other letter'. */
    private static void everyLetterBehindAWord() {
        for (int letter = 0; letter < 256; letter++) {
            int own = letter == 32 ? NONE : letter == ';' ? 6 : 5;
            faultAt("clear" + (char) letter, isSmall(letter) ? 0 : own);
            faultAt("clear" + (char) letter + "clear", letter == ';' ? NONE : letter == 32 ? 6 : isSmall(letter) ? 0 : 5);
            boolean isEnd = letter >= '0' && letter <= '3';
            faultAt("draw" + (char) letter + " 1", isEnd ? NONE : letter == 32 ? 7 : isSmall(letter) ? 0 : 4);
        }
    }

    private static void everyLetterBehindANumber() {
        for (int letter = 0; letter < 256; letter++) {
            int place = letter == 32 || letter == '0' || letter == '1' ? NONE : isDigit(letter) ? 7 : letter == ';' ? 9 : 8;
            faultAt("draw 1 0" + (char) letter, place);
        }
    }

    private static void everyLetterOfAWord() {
        for (String clause : CLAUSES) {
            String word = clause.split(" ")[0];
            for (int i = 0; i < word.length(); i++) {
                for (char letter = 'a'; letter <= 'z'; letter++) {
                    String other = clause.substring(0, i) + letter + clause.substring(i + 1);
                    faultAt(other, other.equals(clause) ? NONE : 0);
                }
                String capital = clause.substring(0, i) + Character.toUpperCase(word.charAt(i)) + clause.substring(i + 1);
                faultAt(capital, 0);
            }
        }
    }

    private static void everyLetterOfARow() {
        for (int letter = 0; letter < 256; letter++) {
            boolean stands = letter == 'x' || letter == 'o';
            boolean alone = isSmall(letter);
            faultAt("row " + (char) letter, stands ? NONE : letter == 32 ? 5 : 4);
            faultAt("row x" + (char) letter, stands || letter == 32 ? NONE : alone ? 4 : letter == ';' ? 6 : 5);
            faultAt("row " + (char) letter + "o", stands || letter == 32 ? NONE : 4);
        }
    }

    private static void wordsNearlyAsTold() {
        for (String clause : CLAUSES) {
            String word = clause.split(" ")[0];
            String rest = clause.substring(word.length());
            faultAt(word.substring(1) + rest, 0);
            faultAt(word.substring(0, word.length() - 1) + rest, 0);
            faultAt(word + "s" + rest, 0);
            faultAt("s" + word + rest, 0);
            faultAt(word + word + rest, 0);
            faultAt(word.charAt(0) + rest, 0);
        }
    }

    /** 'numbers of 1 or 2 digits', 'of more digits, also'. */
    private static void digits() {
        faultAt("warp 0 0", NONE);
        faultAt("warp 0 00", NONE);
        faultAt("warp 0 000", 7);
        faultAt("warp 00 0", NONE);
        faultAt("warp 000 0", 5);
        faultAt("warp 03 09", NONE);
        faultAt("warp 003 9", 5);
        faultAt("warp 3 009", 7);
        faultAt("draft 12 12 06 06", NONE);
        faultAt("draft 012 12 6 6", 6);
        faultAt("draft 12 012 6 6", 9);
        faultAt("draft 12 12 006 6", 12);
        faultAt("draft 12 12 6 006", 14);
        // numbers that a longer sum would bring back into their bounds
        faultAt("warp 4294967296 0", 5);
        faultAt("warp 0 4294967301", 7);
        faultAt("warp 18446744073709551616 0", 5);
        faultAt("warp 0 " + "0".repeat(193), 7);
        WeaveDraft x = Check.told("draft 11 01 1 1;warp 09 08;warp 10 07");
        Check.due("end(9, 1)", x.end(9, 1), 8);
        Check.due("end(10, 1)", x.end(10, 1), 7);
        Check.due("count(0)", x.count(0), 11);
    }

    /** 'blanks (32) may stand ahead of, between and behind TOKENS'. */
    private static void blanks() {
        for (String clause : CLAUSES) {
            String wide = "   " + clause.replace(" ", "   ") + "   ";
            faultAt(wide, NONE);
            faultAt(wide + ";" + wide, NONE);
            Check.told(wide + ";" + wide);
        }
        int[] noBlanks = {0, 9, 10, 11, 12, 13, 31, 33, 160};
        for (int letter : noBlanks) {
            faultAt("draw" + (char) letter + "1 1", 4);
            faultAt("draw 1" + (char) letter + "1", 6);
            faultAt("draw 1 1" + (char) letter, 8);
            faultAt((char) letter + "draw 1 1", 0);
        }
    }

    /** 'none is needed but between two words, two numbers'. */
    private static void blanksThatAreNeeded() {
        for (String clause : CLAUSES) {
            String word = clause.split(" ")[0];
            boolean twoWords = word.equals("row");
            String near = clause.replaceFirst(" ", "");
            faultAt(near, twoWords ? 0 : NONE);
            faultAt("clear;" + near, twoWords ? 6 : NONE);
            faultAt("clear" + clause, 0);
        }
        faultAt("draw31", 4);
        faultAt("draw03", 6);
        faultAt("draw 3 1;tie 1 0;row xo;clear", NONE);
        faultAt("draft12 12 6 6;row x", NONE);
        faultAt("draft12126 6", 5);
        faultAt("draft 1212 6 6", 6);
        faultAt("draft 12 126 6", 9);
        faultAt("draft 12 12 66", 12);
        faultAt("warp0 9weft0 9", 7);
    }

    /** 'a number out of its bounds': each number of each clause, all from 0 to 99. */
    private static void boundsOfEachNumber() {
        // ends 5, picks 3, shafts 4, treadles 2: no two bounds are the same but by the document
        boundsOf("draw", 5, 4);
        boundsOf("tie", 2, 4);
        boundsOf("tread", 3, 2);
        boundsOf("warp", 5, 10);
        boundsOf("weft", 3, 10);
    }

    private static void boundsOf(String word, int first, int second) {
        String ahead = "draft 5 3 4 2;" + word + " ";
        for (int number = 0; number < 100; number++) {
            faultAt(ahead + number + " 0", number < first ? NONE : ahead.length());
            faultAt(ahead + "0 " + number, number < second ? NONE : ahead.length() + 2);
            // the first of two faults
            faultAt(ahead + number + " 99", number < first ? ahead.length() + String.valueOf(number).length() + 1 : ahead.length());
        }
    }

    /** 'by the DRAFT told ahead': the nearest one ahead, not one behind. */
    private static void boundsByTheDraftToldAhead() {
        faultAt("draw 3 1;draft 12 12 6 6;draw 11 5", NONE);
        faultAt("draw 4 1;draft 12 12 6 6", 5);
        faultAt("draw 3 2;draft 12 12 6 6", 7);
        faultAt("draft 12 12 6 6;draft 1 1 1 1;draw 1 0", 35);
        faultAt("draft 12 12 6 6;draft 1 1 1 1;draw 0 1", 37);
        faultAt("draft 1 1 1 1;draft 12 12 6 6;tread 11 5;tie 5 5;weft 11 9;warp 11 9", NONE);
        faultAt("draft 1 12 1 6;tread 11 5;tie 5 0;weft 11 0;warp 0 0;draw 0 0", NONE);
        faultAt("draft 12 1 6 1;draw 11 5;tie 0 5;warp 11 0;weft 0 0;tread 0 0", NONE);
        faultAt("draft 12 1 6 1;tread 1 0", 21);
        faultAt("draft 12 1 6 1;tread 0 1", 23);
        faultAt("draft 12 1 6 1;tie 1 0", 19);
        faultAt("draft 1 12 1 6;tie 0 1", 21);
        faultAt("draft 12 1 6 1;weft 1 0", 20);
        faultAt("draft 1 12 1 6;warp 1 0", 20);
        // clear and row are told of the sample, no bounds of the draft
        faultAt("clear;row xxxxx;row xxxxx;row xxxxx;row xxxxx;row xxxxx;draw 4 0", 61);
    }

    private static void boundsByTheDraftThatIsThere() {
        WeaveDraft x = Check.told("draft 12 1 6 1;row xx");
        String large = "draw 11 5;tie 0 5;warp 11 0";
        Check.faultAt(x, large, NONE);
        x.keep(0);
        x.turn();
        Check.faultAt(x, large, 5);
        Check.faultAt(x, "draw 0 0;tie 5 0;tread 11 5;weft 11 0", NONE);
        x.undo();
        Check.faultAt(x, large, NONE);
        Check.due("sample()", x.sample(), 1);
        Check.faultAt(x, large, 5);
        Check.faultAt(x, "draw 1 0;tread 0 0", NONE);
        Check.faultAt(x, "draw 1 1", 7);
        x.back(0);
        Check.faultAt(x, large, NONE);
    }

    private static void firstFaultIsTold() {
        faultAt("draw 9 9", 5);
        faultAt("draw 0 9;draw 9 0", 7);
        faultAt("clear;drow 9;clear;;", 6);
        faultAt("?draw 9", 0);
        faultAt("row xy 1;", 4);
        faultAt("draw", 4);
        faultAt("draw;", 4);
        faultAt("draw 0 9", 7);
        faultAt("draw 0 9;", 7);
    }

    /** 'THE TEXT is empty': what was told of an old text is not read any more. */
    private static void oldLettersAreNotRead() {
        WeaveDraft x = new WeaveDraft();
        Check.write(x, "clear;clear   ");
        Check.faultAt(x, "clear;", 6);
        Check.faultAt(x, "cle", 0);
        Check.faultAt(x, "clear", NONE);
        Check.write(x, "row xxxxxxxxxxxx");
        Check.tell(x, "row oo");
        Check.due("sampled(0, 0)", x.sampled(0, 0), 0);
        Check.due("least(1)", x.least(1), 2);
        Check.write(x, "row xx;row xxxxxx");
        Check.tell(x, "row oo;row oo");
        Check.due("least(3): three rows, all alike", x.least(3), 1);
        Check.due("sampled(2, 2)", x.sampled(2, 2), NONE);
        Check.due("fault() behind draft()", x.fault(), 0);
        Check.due("draft() behind draft()", x.draft(), WeaveDraft.NOT);
        Check.write(x, "warp 0 99999");
        Check.faultAt(x, "warp 0 9", NONE);
        Check.write(x, " ".repeat(20));
        Check.faultAt(x, "warp", 4);
    }

    /** fault() tells, and changes nothing: the text is still there, and nothing is done. */
    private static void askedOnly() {
        WeaveDraft x = Check.told("row xo");
        x.warp(0, 3);
        x.keep(0);
        x.spool(1);
        x.wind(1, 7);
        Check.write(x, "draft 1 1 1 1;clear;row xxx");
        String was = Check.all(x);
        Check.due("fault()", x.fault(), NONE);
        Check.due("fault()", x.fault(), NONE);
        Check.holds("fault() changes nothing", was.equals(Check.all(x)));
        Check.due("undo()", x.undo(), 0);
        Check.due("back(0)", x.back(0), 4);
        Check.due("draft()", x.draft(), 3);
        Check.due("count(0)", x.count(0), 1);
        Check.due("least(1)", x.least(1), 3);
    }
}
