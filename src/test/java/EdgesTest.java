/** The edges of what is drafted, turned, undone, kept, found: promises 15 to 23 and 31. */
public final class EdgesTest {
    private static final int NOT = WeaveDraft.NOT, NONE = WeaveDraft.NONE;

    public static void main(String[] args) {
        needsOfTheSample();
        refusedForSeveral();
        drafted();
        draftedIsNumberedByTheFirst();
        draftedLarge();
        turned();
        turnedTies();
        undoneEight();
        undoneRoundAndRound();
        undoneOfNothing();
        refusedIsNoStep();
        whatCanNotBeUndone();
        keptEach();
        keptSinceTheLastText();
        keptSizes();
        sameToTheLastCrossing();
        sameOfOtherSizes();
        repeatsAsFarAsThereIsOne();
        layersOfTheLast();
        changedAbout();
        alike();
        idle();
        longestOfAll();
        colourSeen();
        Check.finish();
    }

    /** Rows of x and o, one beside the other, told in as many texts as it takes. */
    private static WeaveDraft sampled(String... rows) {
        WeaveDraft x = new WeaveDraft();
        for (int from = 0; from < rows.length; from += 8) {
            StringBuilder text = new StringBuilder();
            for (int row = from; row < Math.min(rows.length, from + 8); row++) {
                text.append(text.length() == 0 ? "row " : ";row ").append(rows[row]);
            }
            for (int i = 0; i < text.length(); i++) {
                x.write(text.charAt(i));
            }
            Check.due("draft() of '" + text + "'", x.draft(), Math.min(rows.length - from, 8));
        }
        return x;
    }

    private static WeaveDraft drafted(String... rows) {
        WeaveDraft x = sampled(rows);
        Check.holds("sample()", x.sample() >= 1);
        return x;
    }

    /** As many rows and columns, with just so many unlike ones: at (row, column) x where row is less than column. */
    private static String[] stairs(int rows, int columns, int unlikeRows, int unlikeColumns) {
        String[] all = new String[rows];
        for (int j = 0; j < rows; j++) {
            StringBuilder row = new StringBuilder();
            for (int i = 0; i < columns; i++) {
                row.append(Math.min(j, unlikeRows - 1) < Math.min(i, unlikeColumns - 1) ? 'x' : 'o');
            }
            all[j] = row.toString();
        }
        return all;
    }

    /** 'needs more than 6 SHAFTS, TREADLES': six of each are few enough, seven of either too many. */
    private static void needsOfTheSample() {
        needs(stairs(6, 6, 6, 6), 6, 6);
        needs(stairs(12, 12, 6, 6), 6, 6);
        needs(stairs(6, 7, 6, 7), 7, 6);
        needs(stairs(7, 6, 7, 6), 6, 6);
        needs(stairs(7, 7, 7, 7), 7, 7);
        needs(stairs(12, 12, 12, 12), 12, 12);
        needs(stairs(12, 12, 1, 1), 1, 1);
        needs(stairs(1, 1, 1, 1), 1, 1);
        // the last two rows of a stair of 7 by 6 are alike, so seven unlike ones are told here
        needs(new String[] {"oooooo", "xooooo", "oxoooo", "ooxooo", "oooxoo", "ooooxo", "ooooox"}, 6, 7);
        needs(new String[] {"ooooooo", "xxxxxxx", "xxooooo"}, 2, 3);
        needs(new String[] {"oxooooo", "ooxoooo", "oooxooo", "ooooxoo", "oooooxo", "oooooox"}, 7, 6);
        needs(new String[] {"oxoooo", "ooxooo", "oooxoo", "ooooxo", "ooooox", "oxoooo", "ooooox"}, 6, 5);
    }

    private static void needs(String[] rows, int shafts, int treadles) {
        WeaveDraft x = sampled(rows);
        String of = " of " + String.join(" ", rows);
        Check.due("least(2)" + of, x.least(2), shafts);
        Check.due("least(3)" + of, x.least(3), treadles);
        boolean few = shafts <= 6 && treadles <= 6;
        Check.due("sample()" + of, x.sample(), few ? shafts : NOT);
        Check.due("count(14)" + of, x.count(14), few ? 1 : 0);
        Check.due("count(0)" + of, x.count(0), few ? rows[0].length() : 4);
        Check.due("count(1)" + of, x.count(1), few ? rows.length : 4);
        Check.due("count(2)" + of, x.count(2), few ? shafts : 2);
        Check.due("count(3)" + of, x.count(3), few ? treadles : 2);
        Check.due("least(0)" + of, x.least(0), rows.length);
        Check.due("least(1)" + of, x.least(1), rows[0].length());
        if (few) {
            Check.due("least(4)" + of, x.least(4), 1);
        }
    }

    private static void refusedForSeveral() {
        WeaveDraft x = sampled(stairs(7, 7, 7, 7));
        x.warp(0, 5);
        String was = Check.all(x);
        Check.due("sample() of 7 shafts and 7 treadles", x.sample(), NOT);
        Check.holds("refused, nothing changes", was.equals(Check.all(x)));
        Check.due("undo()", x.undo(), 0);
        Check.due("end(0, 1)", x.end(0, 1), 0);
    }

    /** 'as many ENDS as it has columns, as many PICKS as rows, PICK 0 the first one', 'COLOURS as at first'. */
    private static void drafted() {
        for (int rows = 1; rows <= 12; rows++) {
            for (int columns = 1; columns <= 12; columns++) {
                String[] told = stairs(rows, columns, 1, 2);
                told[0] = "x" + "o".repeat(columns - 1);
                WeaveDraft x = sampled(told);
                x.warp(0, 7);
                x.weft(0, 7);
                Check.due("sample()", x.sample(), columns == 1 ? 1 : 2);
                Check.due("count(0)", x.count(0), columns);
                Check.due("count(1)", x.count(1), rows);
                Check.clothIs("drafted", x, String.join(" ", told));
                Check.due("end(0, 1)", x.end(0, 1), 0);
                Check.due("pick(0, 1)", x.pick(0, 1), 1);
                Check.due("end(last, 1)", x.end(columns - 1, 1), 0);
                Check.due("pick(last, 1)", x.pick(rows - 1, 1), 1);
            }
        }
    }

    /** 'numbered by the first column, row that is so'. */
    private static void draftedIsNumberedByTheFirst() {
        // columns: a b a c b c d, rows: p q q r p
        WeaveDraft x = drafted("oxooxox", "xoxxoxo", "xoxxoxo", "oooxoxx", "oxooxox");
        int[] shafts = {0, 1, 0, 2, 1, 2, 3};
        for (int i = 0; i < 7; i++) {
            Check.due("end(" + i + ", 0)", x.end(i, 0), shafts[i]);
        }
        int[] treadles = {0, 1, 1, 2, 0};
        for (int j = 0; j < 5; j++) {
            Check.due("pick(" + j + ", 0)", x.pick(j, 0), treadles[j]);
        }
        int[] tied = {0b1010, 0b0101, 0b1100, WeaveDraft.UNKNOWN};
        for (int k = 0; k < 4; k++) {
            Check.due("treadle(" + k + ")", x.treadle(k), tied[k]);
        }
        Check.due("count(10): none is idle", x.count(10), 0);
        Check.due("count(11): none is idle", x.count(11), 0);
        Check.due("count(9): no two are alike", x.count(9), 0);
    }

    private static void draftedLarge() {
        String[] rows = stairs(12, 12, 6, 6);
        WeaveDraft x = drafted(rows);
        for (int i = 0; i < 12; i++) {
            Check.due("end(" + i + ", 0)", x.end(i, 0), Math.min(i, 5));
            Check.due("pick(" + i + ", 0)", x.pick(i, 0), Math.min(i, 5));
        }
        int[] tied = {0b111110, 0b111100, 0b111000, 0b110000, 0b100000, 0};
        for (int k = 0; k < 6; k++) {
            Check.due("treadle(" + k + ")", x.treadle(k), tied[k]);
        }
        Check.due("pick(0, 4)", x.pick(0, 4), 0xffe);
        Check.due("pick(11, 4)", x.pick(11, 4), 0);
        Check.due("end(0, 4)", x.end(0, 4), 0);
        Check.due("end(11, 4)", x.end(11, 4), 0x01f);
    }

    /** 'ENDS become PICKS, PICKS ENDS (the same numbers, COLOURS), SHAFTS TREADLES, TREADLES SHAFTS'. */
    private static void turned() {
        int[][] sizes = {{1, 12, 1, 6}, {12, 1, 6, 1}, {1, 1, 1, 1}, {12, 12, 6, 6}, {1, 12, 6, 1}, {12, 1, 1, 6}, {3, 7, 5, 2}};
        for (int[] size : sizes) {
            WeaveDraft x = Check.told("draft " + size[0] + " " + size[1] + " " + size[2] + " " + size[3]);
            x.warp(size[0] - 1, 8);
            x.weft(size[1] - 1, 6);
            String was = Check.draftOnly(x);
            int last = x.cross(size[1] - 1, size[0] - 1, 0);
            int up = x.count(12);
            Check.due("turn()", x.turn(), size[1]);
            int[] now = {size[1], size[0], size[3], size[2]};
            for (int what = 0; what < 4; what++) {
                Check.due("count(" + what + ")", x.count(what), now[what]);
            }
            Check.due("its last end's colour", x.end(size[1] - 1, 1), 6);
            Check.due("its last pick's colour", x.pick(size[0] - 1, 1), 8);
            Check.due("its last end's shaft", x.end(size[1] - 1, 0), (size[1] - 1) % size[3]);
            Check.due("its last pick's treadle", x.pick(size[0] - 1, 0), (size[0] - 1) % size[2]);
            Check.due("its last crossing", x.cross(size[0] - 1, size[1] - 1, 0), last);
            Check.due("count(12)", x.count(12), up);
            Check.due("end(more, 0)", x.end(size[1], 0), WeaveDraft.UNKNOWN);
            Check.due("treadle(more)", x.treadle(size[2]), WeaveDraft.UNKNOWN);
            Check.due("turn()", x.turn(), size[0]);
            Check.holds("turned twice", was.equals(Check.draftOnly(x)));
        }
    }

    /** Every tie of the largest draft is turned to its own place. */
    private static void turnedTies() {
        for (int treadle = 0; treadle < 6; treadle++) {
            for (int shaft = 0; shaft < 6; shaft++) {
                WeaveDraft x = Check.told("draft 6 6 6 6");
                for (int k = 0; k < 6; k++) {
                    x.tie(k, k);
                }
                x.tie(treadle, shaft);
                x.turn();
                for (int k = 0; k < 6; k++) {
                    Check.due("treadle(" + k + ")", x.treadle(k), k == shaft ? 1 << treadle : 0);
                }
                Check.due("cross", x.cross(shaft, treadle, 0), 1);
            }
        }
    }

    /** 'the last 8 can be', 'NOT: none'. */
    private static void undoneEight() {
        for (int done = 0; done <= 20; done++) {
            WeaveDraft x = new WeaveDraft();
            for (int i = 1; i <= done; i++) {
                x.warp(1, i % 10);
                Check.due("count(14)", x.count(14), Math.min(i, 8));
            }
            int can = Math.min(done, 8);
            for (int i = 1; i <= can; i++) {
                Check.due("undo() " + i + " of " + done, x.undo(), can - i);
                Check.due("end(1, 1)", x.end(1, 1), (done - i) % 10);
                Check.due("count(14)", x.count(14), can - i);
            }
            Check.due("undo() of none", x.undo(), NOT);
            Check.due("end(1, 1)", x.end(1, 1), (done - can) % 10);
            Check.due("count(14)", x.count(14), 0);
        }
    }

    /** Steps done, undone, done again: those behind an undone one take its place. */
    private static void undoneRoundAndRound() {
        WeaveDraft x = new WeaveDraft();
        int[] colours = new int[400];
        int length = 0;
        int can = 0;
        for (int round = 0; round < 23; round++) {
            for (int i = 0; i < 3 + round % 4; i++) {
                colours[length + 1] = (colours[length] + 1 + round % 3) % 10;
                length++;
                Check.due("weft(2, ..)", x.weft(2, colours[length]), length == 1 ? 1 : colours[length - 1]);
                can = Math.min(can + 1, 8);
            }
            for (int i = 0; i < 2 + round % 3; i++) {
                Check.due("undo()", x.undo(), can > 0 ? can - 1 : NOT);
                length -= can > 0 ? 1 : 0;
                can = Math.max(can - 1, 0);
            }
            Check.due("pick(2, 1)", x.pick(2, 1), length == 0 ? 1 : colours[length]);
            Check.due("count(14)", x.count(14), can);
        }
    }

    /** 'also one by which nothing became other': of each call that can be undone. */
    private static void undoneOfNothing() {
        WeaveDraft x = Check.told("draft 1 1 1 1;row x");
        String was = Check.draftOnly(x);
        x.draw(0, 0);
        x.tread(0, 0);
        x.warp(0, 0);
        x.weft(0, 1);
        x.turn();
        // a turn swaps the colours of the single end and pick
        x.turn();
        x.sample();
        Check.holds("nothing became other", was.equals(Check.draftOnly(x)));
        Check.due("count(14)", x.count(14), 7);
        x.tie(0, 0);
        Check.due("count(14)", x.count(14), 8);
        for (int step = 7; step >= 0; step--) {
            Check.due("undo()", x.undo(), step);
        }
        Check.due("undo()", x.undo(), NOT);
        Check.holds("all undone", was.equals(Check.draftOnly(x)));
    }

    /** A refused call is no step: it neither counts nor puts the oldest one out. */
    private static void refusedIsNoStep() {
        WeaveDraft x = new WeaveDraft();
        for (int i = 1; i <= 8; i++) {
            x.warp(0, i);
        }
        x.draw(4, 0);
        x.draw(0, 2);
        x.tie(2, 0);
        x.tread(0, 2);
        x.warp(0, 10);
        x.weft(4, 0);
        x.sample();
        x.back(0);
        x.keep(2);
        x.draft();
        Check.due("count(14)", x.count(14), 8);
        for (int step = 7; step >= 0; step--) {
            Check.due("undo()", x.undo(), step);
            Check.due("end(0, 1)", x.end(0, 1), step);
        }
        Check.due("undo()", x.undo(), NOT);
    }

    /** Only the seven calls that the document names are undone; the others stay as they are. */
    private static void whatCanNotBeUndone() {
        WeaveDraft x = Check.told("row xo");
        x.warp(0, 3);
        x.keep(1);
        x.spool(0);
        x.wind(0, 40);
        x.wind(0, 41);
        x.spool(1);
        x.rewind(0, 1);
        x.knot(1);
        x.pull(1, 1);
        x.drop(0);
        x.write('q');
        x.fault();
        x.changed(0, 1);
        x.tamed(0, 1);
        Check.due("count(14)", x.count(14), 1);
        Check.due("undo()", x.undo(), 0);
        Check.due("undo()", x.undo(), NOT);
        Check.due("measure(1, 0)", x.measure(1, 0), 80);
        Check.due("drop(0)", x.drop(0), WeaveDraft.NULL);
        Check.due("count(15)", x.count(15), 1);
        Check.due("least(0)", x.least(0), 1);
        Check.due("back(1)", x.back(1), 4);
        Check.due("end(0, 1)", x.end(0, 1), 3);
    }

    /** 'k 0, 1': each for itself, and the newest keeps. */
    private static void keptEach() {
        WeaveDraft x = new WeaveDraft();
        Check.due("keep(1)", x.keep(1), 4);
        Check.due("back(0): only the other is kept", x.back(0), NOT);
        Check.due("back(2)", x.back(2), WeaveDraft.UNKNOWN);
        x.warp(0, 1);
        Check.due("keep(0)", x.keep(0), 4);
        x.warp(0, 2);
        Check.due("back(1)", x.back(1), 4);
        Check.due("end(0, 1)", x.end(0, 1), 0);
        Check.due("count(14): nothing can be undone", x.count(14), 0);
        Check.due("undo()", x.undo(), NOT);
        Check.due("back(1) once more", x.back(1), 4);
        Check.due("back(0)", x.back(0), 4);
        Check.due("end(0, 1)", x.end(0, 1), 1);
        x.warp(0, 9);
        Check.due("undo() of what came behind", x.undo(), 0);
        Check.due("end(0, 1)", x.end(0, 1), 1);
        x.warp(0, 8);
        Check.due("keep(1) over the old one", x.keep(1), 4);
        x.warp(0, 7);
        x.back(1);
        Check.due("end(0, 1)", x.end(0, 1), 8);
        Check.due("back(0)", x.back(0), 4);
        Check.due("end(0, 1)", x.end(0, 1), 1);
    }

    /** 'NOT: nothing was kept since the last text'. A text with a fault is none that was done. */
    private static void keptSinceTheLastText() {
        WeaveDraft x = new WeaveDraft();
        x.keep(0);
        x.keep(1);
        x.warp(0, 6);
        Check.write(x, "clear;");
        Check.due("draft()", x.draft(), NOT);
        Check.due("back(0)", x.back(0), 4);
        x.warp(0, 6);
        Check.tell(x, "clear");
        Check.due("back(0)", x.back(0), NOT);
        Check.due("back(1)", x.back(1), NOT);
        Check.due("end(0, 1)", x.end(0, 1), 6);
        Check.due("keep(0)", x.keep(0), 4);
        Check.due("back(1)", x.back(1), NOT);
        Check.due("back(0)", x.back(0), 4);
        Check.write(x, "warp 0 0");
        Check.due("erase()", x.erase(), 8);
        Check.due("back(0): the text was not done", x.back(0), 4);
        Check.due("end(0, 1)", x.end(0, 1), 6);
    }

    /** What is kept is the whole draft, also of another size than the one that is there. */
    private static void keptSizes() {
        WeaveDraft x = Check.told("draft 12 1 6 2;draw 11 3;tie 1 5;weft 0 9;warp 11 9;row x");
        String large = Check.draftOnly(x);
        Check.due("keep(0)", x.keep(0), 12);
        x.turn();
        Check.due("keep(1)", x.keep(1), 1);
        String turned = Check.draftOnly(x);
        x.sample();
        Check.due("count(0)", x.count(0), 1);
        Check.due("back(0)", x.back(0), 12);
        Check.holds("as it was kept", large.equals(Check.draftOnly(x)));
        Check.due("back(1)", x.back(1), 1);
        Check.holds("as it was kept", turned.equals(Check.draftOnly(x)));
        Check.due("least(0): the sample is apart", x.least(0), 1);
    }

    /** 'THE CLOTH is THE SAMPLE, crossing by crossing': no single crossing may differ. */
    private static void sameToTheLastCrossing() {
        for (int row = 0; row < 3; row++) {
            for (int column = 0; column < 4; column++) {
                WeaveDraft x = Check.told("draft 4 3 4 3;tie 0 3;tie 2 0");
                String[] rows = Check.cloth(x).split(" ");
                StringBuilder text = new StringBuilder();
                for (int j = 0; j < 3; j++) {
                    text.append(j == 0 ? "row " : ";row ").append(rows[j]);
                }
                Check.tell(x, text.toString());
                Check.due("least(4)", x.least(4), 1);
                int place = row * 9 + 4 + column;
                text.setCharAt(place, text.charAt(place) == 'x' ? 'o' : 'x');
                Check.tell(x, "clear;" + text);
                Check.due("least(4) but for " + row + " " + column, x.least(4), 0);
            }
        }
        WeaveDraft x = drafted(stairs(12, 12, 6, 6));
        Check.due("least(4)", x.least(4), 1);
        x.tread(11, 4);
        Check.due("least(4) but for the last pick", x.least(4), 0);
        x.undo();
        Check.due("least(4)", x.least(4), 1);
        x.draw(11, 4);
        Check.due("least(4) but for the last end", x.least(4), 0);
    }

    private static void sameOfOtherSizes() {
        WeaveDraft x = Check.told("draft 2 2 1 1;row xx;row xx");
        Check.due("least(4)", x.least(4), 1);
        String[] others = {"draft 1 2 1 1", "draft 2 1 1 1", "draft 3 2 1 1", "draft 2 3 1 1", "draft 1 1 1 1", "draft 3 3 1 1"};
        for (String other : others) {
            Check.tell(x, other);
            Check.due("least(4) of " + other, x.least(4), 0);
        }
        Check.tell(x, "draft 2 2 6 6;draw 1 0;tread 1 0");
        Check.due("least(4): more shafts do not matter", x.least(4), 1);
        Check.tell(x, "clear");
        Check.due("least(4): no rows", x.least(4), 0);
    }

    /** 'each END is UP just as the one r further on, as far as there is one', 'of PICKS likewise'. */
    private static void repeatsAsFarAsThereIsOne() {
        // a pick that has the same number of crossings up is not the same one
        WeaveDraft x = drafted("xoo", "oxo", "oox", "xoo", "oxo");
        Check.due("count(7)", x.count(7), 3);
        Check.due("count(6)", x.count(6), 3);
        x = drafted("xoxxo", "xoxxo");
        Check.due("count(6)", x.count(6), 3);
        x = drafted("xooox");
        Check.due("count(6): only the last is like the first", x.count(6), 4);
        x = drafted("xooooooooooo");
        Check.due("count(6): none", x.count(6), 12);
        x.turn();
        Check.due("count(7): none", x.count(7), 12);
        x = Check.told("draft 12 12 1 6;tie 0 0;tie 1 0;tie 2 0;tie 3 0;tie 4 0;tie 5 0");
        Check.due("count(6)", x.count(6), 1);
        Check.due("count(7): other treadles, the same picks", x.count(7), 1);
        x = Check.told("draft 12 12 6 6;draw 6 1");
        Check.due("count(6): broken in the midst", x.count(6), 12);
        Check.due("count(7)", x.count(7), 6);
        x = Check.told("draft 12 12 6 6;draw 11 4");
        Check.due("count(6): broken by the last", x.count(6), 12);
    }

    /** 'even ENDS, PICKS are of the upper one, odd ones of the lower one': of the largest cloth, crossing by crossing. */
    private static void layersOfTheLast() {
        for (int j = 10; j < 12; j++) {
            for (int i = 10; i < 12; i++) {
                // all ends are on shaft 0 but this one; treadle 1 is trodden at this pick alone
                WeaveDraft x = Check.told("draft 12 12 1 2;tie 0 0;tie 1 0");
                Check.due("count(8) of nothing up: upper ends at lower picks", x.count(8), 36);
                Check.tell(x, "draft 12 12 2 2");
                for (int n = 0; n < 12; n++) {
                    x.draw(n, n == i ? 1 : 0);
                    x.tread(n, n == j ? 1 : 0);
                }
                x.tie(0, 0);
                Check.due("pick(" + j + ", 4)", x.pick(j, 4), 1 << i);
                boolean upperPick = j % 2 == 0;
                boolean upperEnd = i % 2 == 0;
                int due = upperPick ? upperEnd ? 0 : 1 : upperEnd ? 5 : 6;
                Check.due("pick(" + j + ", 6) of end " + i, x.pick(j, 6), due);
                Check.due("pick(" + j + ", 5) of end " + i, x.pick(j, 5), due > 0 ? 1 : 0);
                Check.due("count(8)", x.count(8), (upperPick ? 36 : 30) + due);
            }
        }
        WeaveDraft x = Check.told("draft 1 1 1 1");
        Check.due("pick(0, 5): no end of the lower one", x.pick(0, 5), 0);
        Check.due("count(8)", x.count(8), 0);
    }

    /** 'two ENDS on each other's SHAFT: the longest FLOAT of all PICKS (OVER or UNDER) then'. */
    private static void changedAbout() {
        WeaveDraft x = Check.told("draft 2 1 2 1");
        Check.due("changed(0, 1)", x.changed(0, 1), 1);
        Check.due("changed(1, 0)", x.changed(1, 0), 1);
        Check.due("changed(1, 1)", x.changed(1, 1), WeaveDraft.UNKNOWN);
        Check.tell(x, "draft 1 1 1 1");
        Check.due("changed(0, 0): a single end", x.changed(0, 0), WeaveDraft.UNKNOWN);
        x = drafted("xoooooooooox");
        Check.due("count(5)", x.count(5), 10);
        Check.due("changed(0, 11): on the same shaft", x.changed(0, 11), 10);
        Check.due("changed(0, 1)", x.changed(0, 1), 9);
        Check.due("changed(11, 10)", x.changed(11, 10), 9);
        Check.due("changed(0, 5)", x.changed(0, 5), 5);
        Check.due("changed(5, 11)", x.changed(5, 11), 6);
        Check.due("count(5): nothing changed", x.count(5), 10);
        Check.due("count(14)", x.count(14), 1);
        // the longest may be of the last pick, and of ends that are up
        x = drafted("xoxo", "xoxo", "oxox");
        x.tie(1, 0);
        Check.clothIs("ahead", x, "xoxo xoxo xxxx");
        Check.due("changed(0, 1): all ends of the last pick", x.changed(0, 1), 4);
        // the longest then may be one that was not the longest ahead
        x = drafted("xxxooo", "xxxooo", "xoxxox");
        Check.due("count(5)", x.count(5), 3);
        Check.due("changed(1, 4)", x.changed(1, 4), 2);
    }

    /** 'SHAFTS that are TIED to just the same TREADLES, pair by pair: how many pairs'. */
    private static void alike() {
        int[] pairs = {0, 0, 1, 3, 6, 10, 15};
        for (int shafts = 1; shafts <= 6; shafts++) {
            WeaveDraft x = Check.told("draft 1 1 " + shafts + " 1;tie 0 0");
            Check.due("count(9): tied to none, all", x.count(9), pairs[shafts]);
            for (int k = 0; k < shafts; k++) {
                x.tie(0, k);
                int up = k + 1;
                Check.due("count(9)", x.count(9), pairs[up] + pairs[shafts - up]);
            }
        }
        WeaveDraft x = Check.told("draft 1 1 6 6");
        Check.due("count(9): each of its own", x.count(9), 0);
        x.tie(5, 0);
        x.tie(0, 5);
        Check.due("count(9): the first and the last", x.count(9), 1);
        x.tie(3, 5);
        Check.due("count(9): just the same, not only all of those", x.count(9), 0);
    }

    /** 'SHAFTS on which there is no END (bits); TREADLES that are never TRODDEN'. */
    private static void idle() {
        WeaveDraft x = Check.told("draft 12 12 6 6");
        Check.due("count(10)", x.count(10), 0);
        Check.due("count(11)", x.count(11), 0);
        for (int k = 0; k < 6; k++) {
            x = Check.told("draft 12 12 6 6");
            for (int i = 0; i < 12; i++) {
                x.draw(i, k);
                x.tread(i, 5 - k);
            }
            Check.due("count(10): all but " + k, x.count(10), 63 - (1 << k));
            Check.due("count(11): all but " + (5 - k), x.count(11), 63 - (1 << 5 - k));
            x.draw(11, (k + 1) % 6);
            x.tread(11, (6 - k) % 6);
            Check.due("count(10): the last end is on another", x.count(10), 63 - (1 << k) - (1 << (k + 1) % 6));
            Check.due("count(11): at the last pick another", x.count(11), 63 - (1 << 5 - k) - (1 << (6 - k) % 6));
        }
        x = Check.told("draft 1 1 1 1");
        Check.due("count(10)", x.count(10), 0);
        Check.due("count(11)", x.count(11), 0);
        // ends and picks that are not there any more do not count
        x = Check.told("draft 12 12 6 6;draft 1 2 6 6");
        Check.due("count(10)", x.count(10), 0b111110);
        Check.due("count(11)", x.count(11), 0b111100);
    }

    /** 'the longest FLOAT of all ENDS, of all PICKS': over or under, of the first or the last one. */
    private static void longestOfAll() {
        int[][] due = {{12, 1}, {1, 12}};
        for (int turn = 0; turn < 2; turn++) {
            WeaveDraft x = Check.told("draft 1 12 1 1");
            for (int i = 0; i < turn; i++) {
                x.turn();
            }
            Check.due("count(4): all up", x.count(4), due[turn][0]);
            Check.due("count(5): all up", x.count(5), due[turn][1]);
            x.tie(0, 0);
            Check.due("count(4): none up", x.count(4), due[turn][0]);
            Check.due("count(5): none up", x.count(5), due[turn][1]);
        }
        WeaveDraft x = drafted("xox", "oxo", "ooo");
        Check.due("count(5): of the last pick", x.count(5), 3);
        Check.due("count(4): of the first end", x.count(4), 2);
        x = drafted("ooo", "xox", "oxo");
        Check.due("count(5): of the first pick", x.count(5), 3);
        x = drafted("xox", "oxx", "xox");
        Check.due("count(4): of the last end", x.count(4), 3);
        // a float ends where the cloth ends: it does not go round
        x = drafted("xxoxx", "oooxx", "xxoxx", "xxoxx");
        Check.due("pick(0, 3)", x.pick(0, 3), 2);
        Check.due("end(0, 2)", x.end(0, 2), 2);
    }

    /** 'the COLOUR of the END, if it is UP, else that of the PICK'. */
    private static void colourSeen() {
        WeaveDraft x = new WeaveDraft();
        x.warp(0, 9);
        x.weft(0, 0);
        x.weft(1, 9);
        Check.due("cross(0, 0, 1)", x.cross(0, 0, 1), 9);
        Check.due("cross(0, 1, 1)", x.cross(0, 1, 1), 0);
        Check.due("cross(1, 0, 1)", x.cross(1, 0, 1), 9);
        Check.due("cross(1, 1, 1)", x.cross(1, 1, 1), 0);
        Check.due("cross(3, 3, 1)", x.cross(3, 3, 1), 0);
        Check.due("cross(3, 2, 1)", x.cross(3, 2, 1), 1);
        Check.due("sampled(0, 0): the cloth is no sample", x.sampled(0, 0), NONE);
    }
}
