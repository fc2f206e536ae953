/** The sizes that the document's terms name, the last that is as told and the first that is not. */
public final class SizesTest {
    private static final int UNKNOWN = WeaveDraft.UNKNOWN, NONE = WeaveDraft.NONE;

    public static void main(String[] args) {
        everySizeAsAtFirst();
        sizesOutOfBounds();
        lastOfEachIsThere();
        everyColour();
        noRowsAtFirst();
        rowsOfEveryLength();
        rowsOfOtherLengths();
        thirteenthRow();
        fullSampleIsCleared();
        fullText();
        longTextIsDone();
        everyNumberOfClauses();
        callsAreAnsweredToTheLast();
        Check.finish();
    }

    /** 'END i on what is left of i by s', 'to TREADLE k the SHAFT that is left of k by s', 'at PICK j what is left of j by t'. */
    private static void everySizeAsAtFirst() {
        for (int e = 1; e <= 12; e++) {
            for (int s = 1; s <= 6; s++) {
                for (int t = 1; t <= 6; t++) {
                    asAtFirst(Check.told("draft " + e + " " + (13 - e) + " " + s + " " + t), e, 13 - e, s, t);
                }
            }
        }
        asAtFirst(new WeaveDraft(), 4, 4, 2, 2);
        WeaveDraft x = Check.told("draft 12 12 6 6;tie 5 0;draw 11 0;tread 11 0;warp 11 9;weft 11 9");
        Check.tell(x, "draft 12 12 5 5");
        asAtFirst(x, 12, 12, 5, 5);
    }

    private static void asAtFirst(WeaveDraft x, int e, int p, int s, int t) {
        String of = " of " + e + " " + p + " " + s + " " + t;
        int[] sizes = {e, p, s, t};
        for (int what = 0; what < 4; what++) {
            Check.due("count(" + what + ")" + of, x.count(what), sizes[what]);
        }
        for (int i = 0; i < e; i++) {
            Check.due("end(" + i + ", 0)" + of, x.end(i, 0), i % s);
            Check.due("end(" + i + ", 1)" + of, x.end(i, 1), 0);
        }
        for (int j = 0; j < p; j++) {
            Check.due("pick(" + j + ", 0)" + of, x.pick(j, 0), j % t);
            Check.due("pick(" + j + ", 1)" + of, x.pick(j, 1), 1);
        }
        for (int k = 0; k < t; k++) {
            Check.due("treadle(" + k + ")" + of, x.treadle(k), 1 << k % s);
        }
        Check.due("end(" + e + ", 0)" + of, x.end(e, 0), UNKNOWN);
        Check.due("pick(" + p + ", 0)" + of, x.pick(p, 0), UNKNOWN);
        Check.due("treadle(" + t + ")" + of, x.treadle(t), UNKNOWN);
    }

    /** 'e 1 .. 12', 'p 1 .. 12', 's 1 .. 6', 't 1 .. 6'. */
    private static void sizesOutOfBounds() {
        int[] most = {12, 12, 6, 6};
        for (int place = 0; place < 4; place++) {
            for (int number = 0; number < 100; number++) {
                String[] numbers = {"1", "1", "1", "1"};
                numbers[place] = String.valueOf(number);
                boolean asTold = number >= 1 && number <= most[place];
                Check.faultAt(new WeaveDraft(), "draft " + String.join(" ", numbers), asTold ? NONE : 6 + 2 * place);
            }
        }
    }

    private static void lastOfEachIsThere() {
        lastIsThere(3, 5, 2, 4);
        lastIsThere(5, 3, 4, 2);
        lastIsThere(1, 12, 1, 6);
        lastIsThere(12, 1, 6, 1);
        lastIsThere(1, 1, 1, 1);
        lastIsThere(12, 12, 6, 6);
    }

    /** 'no such END, PICK, SHAFT, TREADLE': the last one is there, the one behind it not. */
    private static void lastIsThere(int e, int p, int s, int t) {
        WeaveDraft x = Check.told("draft " + e + " " + p + " " + s + " " + t);
        String of = " of " + e + " " + p + " " + s + " " + t;
        Check.due("draw the last" + of, x.draw(e - 1, s - 1), (e - 1) % s);
        Check.due("draw an end more" + of, x.draw(e, s - 1), UNKNOWN);
        Check.due("draw on a shaft more" + of, x.draw(e - 1, s), UNKNOWN);
        Check.due("its shaft" + of, x.end(e - 1, 0), s - 1);
        Check.due("tie the last" + of, x.tie(t - 1, s - 1), 1 << (t - 1) % s ^ 1 << s - 1);
        Check.due("tie a treadle more" + of, x.tie(t, s - 1), UNKNOWN);
        Check.due("tie to a shaft more" + of, x.tie(t - 1, s), UNKNOWN);
        Check.due("its shafts" + of, x.treadle(t - 1), 1 << (t - 1) % s ^ 1 << s - 1);
        Check.due("tread the last" + of, x.tread(p - 1, t - 1), (p - 1) % t);
        Check.due("tread at a pick more" + of, x.tread(p, t - 1), UNKNOWN);
        Check.due("tread a treadle more" + of, x.tread(p - 1, t), UNKNOWN);
        Check.due("its treadle" + of, x.pick(p - 1, 0), t - 1);
        Check.due("warp of the last" + of, x.warp(e - 1, 9), 0);
        Check.due("warp of an end more" + of, x.warp(e, 9), UNKNOWN);
        Check.due("weft of the last" + of, x.weft(p - 1, 9), 1);
        Check.due("weft of a pick more" + of, x.weft(p, 9), UNKNOWN);
        Check.due("colour seen" + of, x.cross(p - 1, e - 1, 1), 9);
        Check.due("cross at a pick more" + of, x.cross(p, e - 1, 1), UNKNOWN);
        Check.due("cross of an end more" + of, x.cross(p - 1, e, 1), UNKNOWN);
        Check.due("tamed of the last" + of, x.tamed(p - 1, 12), 0);
        Check.due("tamed of a pick more" + of, x.tamed(p, 12), UNKNOWN);
        Check.due("changed with an end more" + of, x.changed(0, e), UNKNOWN);
        Check.due("changed with an end more" + of, x.changed(e, 0), UNKNOWN);
        Check.holds("changed with the last" + of, e == 1 || x.changed(0, e - 1) > 0 && x.changed(e - 1, 0) > 0);
        Check.due("changes that count" + of, x.count(14), 5);
    }

    /** 'COLOURS of ENDS, PICKS: 0 .. 9 (0 at first for ENDS, 1 for PICKS)'. */
    private static void everyColour() {
        WeaveDraft x = new WeaveDraft();
        for (int colour = 0; colour <= 9; colour++) {
            Check.due("warp(3, " + colour + ")", x.warp(3, colour), Math.max(colour - 1, 0));
            Check.due("weft(3, " + colour + ")", x.weft(3, colour), colour == 0 ? 1 : colour - 1);
            Check.due("end(3, 1)", x.end(3, 1), colour);
            Check.due("pick(3, 1)", x.pick(3, 1), colour);
        }
        Check.due("warp(3, 10)", x.warp(3, 10), WeaveDraft.OUTSIDE);
        Check.due("weft(3, 10)", x.weft(3, 10), WeaveDraft.OUTSIDE);
        Check.due("end(3, 1)", x.end(3, 1), 9);
        Check.due("pick(3, 1)", x.pick(3, 1), 9);
        for (int colour = 0; colour < 100; colour++) {
            int place = colour <= 9 ? NONE : 7;
            Check.faultAt(new WeaveDraft(), "warp 0 " + colour, place);
            Check.faultAt(new WeaveDraft(), "weft 0 " + colour, place);
        }
        x = Check.told("warp 0 9;weft 0 0;warp 1 0;weft 1 9");
        Check.due("end(0, 1)", x.end(0, 1), 9);
        Check.due("pick(0, 1)", x.pick(0, 1), 0);
        Check.due("end(1, 1)", x.end(1, 1), 0);
        Check.due("pick(1, 1)", x.pick(1, 1), 9);
    }

    private static void noRowsAtFirst() {
        WeaveDraft x = new WeaveDraft();
        Check.due("least(0)", x.least(0), 0);
        Check.due("least(1)", x.least(1), 0);
        Check.due("sampled(0, 0)", x.sampled(0, 0), NONE);
        Check.due("sample()", x.sample(), WeaveDraft.NOT);
        Check.tell(x, "clear");
        Check.due("least(0): nothing to clear", x.least(0), 0);
    }

    /** 'W a word of letters x and o, 12 at most'. */
    private static void rowsOfEveryLength() {
        for (int length = 1; length <= 12; length++) {
            WeaveDraft x = Check.told("row " + "o".repeat(length - 1) + "x");
            Check.due("least(0)", x.least(0), 1);
            Check.due("least(1)", x.least(1), length);
            Check.due("its last crossing", x.sampled(0, length - 1), 1);
            Check.due("behind its last crossing", x.sampled(0, length), NONE);
            Check.due("below its last row", x.sampled(1, length - 1), NONE);
            Check.due("sample()", x.sample(), Math.min(length, 2));
            Check.due("count(0)", x.count(0), length);
        }
        for (int length = 13; length <= 196; length++) {
            Check.faultAt(new WeaveDraft(), "row " + "x".repeat(length), 4);
        }
    }

    /** 'as long as those that are there': those of texts before, and those told ahead. */
    private static void rowsOfOtherLengths() {
        for (int there = 1; there <= 12; there++) {
            String first = "row " + "x".repeat(there);
            for (int length = 1; length <= 13; length++) {
                String next = "row " + "o".repeat(length);
                WeaveDraft x = Check.told(first);
                Check.faultAt(x, next, length == there ? NONE : 4);
                int place = first.length() + 5;
                Check.faultAt(new WeaveDraft(), first + ";" + next, length == there ? NONE : place);
                Check.faultAt(x, "clear;" + next, length <= 12 ? NONE : 10);
                Check.due("least(1): only asked", x.least(1), there);
            }
        }
    }

    /** 'a thirteenth cannot stand there (at its word row)', by what is there and what is told ahead. */
    private static void thirteenthRow() {
        for (int there = 0; there <= 12; there++) {
            String rest = rows(12 - there);
            WeaveDraft x = new WeaveDraft();
            if (there > 0) {
                Check.tell(x, rows(there));
            }
            Check.due("least(0)", x.least(0), there);
            String ahead = rest.isEmpty() ? "" : rest + "; ";
            Check.faultAt(x, ahead + "row x", ahead.length());
            Check.faultAt(x, ahead + "row", ahead.length());
            Check.faultAt(x, ahead + "row xx", ahead.length());
            Check.faultAt(x, ahead + "clear;row xx", NONE);
            if (there < 12) {
                Check.tell(x, rest);
            }
            Check.due("least(0): twelve", x.least(0), 12);
            Check.due("sampled(11, 0)", x.sampled(11, 0), 1);
            Check.due("sampled(12, 0)", x.sampled(12, 0), NONE);
        }
    }

    private static String rows(int howMany) {
        return howMany == 0 ? "" : "row x;".repeat(howMany - 1) + "row x";
    }

    /** 'clear: THE SAMPLE has no rows': nothing of the old ones is left, and there is room again. */
    private static void fullSampleIsCleared() {
        WeaveDraft x = Check.told(rows(12));
        Check.tell(x, "clear;row oo;clear;row ooo;row oxo");
        Check.due("least(0)", x.least(0), 2);
        Check.due("least(1)", x.least(1), 3);
        Check.due("sampled(0, 0)", x.sampled(0, 0), 0);
        Check.due("sampled(1, 1)", x.sampled(1, 1), 1);
        Check.due("sampled(2, 0): of the rows that were", x.sampled(2, 0), NONE);
        Check.tell(x, "clear;" + rows(12));
        Check.due("least(0)", x.least(0), 12);
        Check.due("least(1)", x.least(1), 1);
        Check.tell(x, "clear");
        for (int what = 0; what < 5; what++) {
            Check.due("least(" + what + ") of no rows", x.least(what), 0);
        }
    }

    /** 'a row of letters, 200 at most'. */
    private static void fullText() {
        WeaveDraft x = new WeaveDraft();
        Check.write(x, "clear" + " ".repeat(194));
        Check.due("count(15)", x.count(15), 199);
        Check.due("write(';'): the 200th", x.write(';'), 200);
        Check.due("write(32): the 201st", x.write(32), WeaveDraft.FULL);
        Check.due("write(0)", x.write(0), WeaveDraft.FULL);
        Check.due("write(255)", x.write(255), WeaveDraft.FULL);
        Check.due("write(-1)", x.write(-1), WeaveDraft.OUTSIDE);
        Check.due("write(256)", x.write(256), WeaveDraft.OUTSIDE);
        Check.due("fault(): at the length", x.fault(), 200);
        Check.due("draft()", x.draft(), WeaveDraft.NOT);
        Check.due("count(15)", x.count(15), 200);
        Check.due("erase()", x.erase(), 200);
        Check.due("fault()", x.fault(), 0);
        Check.due("write(';')", x.write(';'), 1);
        Check.due("count(15)", x.count(15), 1);
    }

    private static void longTextIsDone() {
        WeaveDraft x = new WeaveDraft();
        Check.tell(x, " ".repeat(190) + "warp 3  09");
        Check.due("end(3, 1)", x.end(3, 1), 9);
        Check.due("count(15): empty then", x.count(15), 0);
        Check.due("write(32): there is room again", x.write(32), 1);
        x = new WeaveDraft();
        Check.tell(x, "row xoxoxoxoxoxo;".repeat(11) + "warp0 5;clear");
        Check.due("end(0, 1)", x.end(0, 1), 5);
        Check.due("least(0)", x.least(0), 0);
        Check.faultAt(new WeaveDraft(), " ".repeat(199) + "q", 199);
        Check.faultAt(new WeaveDraft(), " ".repeat(200), 200);
    }

    /** 'CLAUSES with ; between, 1 to 24 (.. behind the 24th no ; can stand)'. */
    private static void everyNumberOfClauses() {
        for (int clauses = 1; clauses <= 28; clauses++) {
            String text = "clear;".repeat(clauses - 1) + "clear";
            Check.faultAt(new WeaveDraft(), text, clauses <= 24 ? NONE : 143);
            Check.faultAt(new WeaveDraft(), text + ";", clauses < 24 ? text.length() + 1 : 143);
            Check.faultAt(new WeaveDraft(), text + " ", clauses <= 24 ? NONE : 143);
            WeaveDraft x = new WeaveDraft();
            Check.write(x, text);
            Check.due("draft() of " + clauses, x.draft(), clauses <= 24 ? clauses : WeaveDraft.NOT);
            Check.due("count(15)", x.count(15), clauses <= 24 ? 0 : text.length());
        }
        WeaveDraft x = Check.told("clear;".repeat(23) + "warp 0 9");
        Check.due("end(0, 1): the 24th is done", x.end(0, 1), 9);
    }

    /** 'An object is used for at most 512 calls': the last one is still answered as told. */
    private static void callsAreAnsweredToTheLast() {
        WeaveDraft x = new WeaveDraft();
        int was = 0;
        for (int call = 1; call <= 503; call++) {
            Check.due("warp(0, ..), call " + call, x.warp(0, call % 10), was);
            was = call % 10;
        }
        for (int step = 7; step >= 0; step--) {
            Check.due("undo()", x.undo(), step);
        }
        Check.due("end(0, 1), call 512", x.end(0, 1), 495 % 10);
    }
}
