/** Promises 1 and 6 to 14: a new object, what is told of it, what is drawn, tied, trodden, coloured. */
public final class DraftTest {
    private static final int LEAST = Integer.MIN_VALUE, MOST = Integer.MAX_VALUE;

    public static void main(String[] args) {
        newObject();
        ends();
        picks();
        layers();
        treadles();
        crossings();
        changes();
        refusals();
        Check.finish();
    }

    private static void newObject() {
        WeaveDraft x = new WeaveDraft();
        int[] counts = {4, 4, 2, 2, 1, 1, 2, 2, 4, 0, 0, 0, 8, 0, 0, 0};
        for (int what = 0; what < counts.length; what++) {
            Check.due("count(" + what + ")", x.count(what), counts[what]);
        }
        Check.clothIs("new", x, "xoxo oxox xoxo oxox");
        for (int i = 0; i < 4; i++) {
            Check.due("end(" + i + ", 1)", x.end(i, 1), 0);
            Check.due("pick(" + i + ", 1)", x.pick(i, 1), 1);
        }
        Check.due("least(0)", x.least(0), 0);
        Check.due("undo()", x.undo(), WeaveDraft.NOT);
        Check.due("back(0)", x.back(0), WeaveDraft.NOT);
        for (int i = 0; i < 3; i++) {
            Check.due("drop(" + i + ")", x.drop(i), WeaveDraft.NULL);
        }
        WeaveDraft large = Check.told("draft 12 12 5 6");
        Check.due("end(11, 0)", large.end(11, 0), 1);
        Check.due("pick(11, 0)", large.pick(11, 0), 5);
        Check.due("treadle(5)", large.treadle(5), 1);
    }

    private static void ends() {
        // shaft 0 goes up at picks 0 1 2 and 5, shaft 1 at 3
        WeaveDraft x = Check.told("draft 2 6 2 3;tie 2 0;tread 0 0;tread 1 0;tread 2 0;tread 3 1;tread 4 2;tread 5 0");
        Check.clothIs("six picks", x, "xo xo xo ox oo xo");
        int[] first = {0, 0, 3, 2, 0b100111};
        int[] second = {1, 0, 1, 3, 0b001000};
        for (int what = 0; what < 5; what++) {
            Check.due("end(0, " + what + ")", x.end(0, what), first[what]);
            Check.due("end(1, " + what + ")", x.end(1, what), second[what]);
        }
        Check.due("end(1, 5)", x.end(1, 5), WeaveDraft.OUTSIDE);
        Check.due("end(1, -1)", x.end(1, -1), WeaveDraft.OUTSIDE);
        Check.due("end(2, 5)", x.end(2, 5), WeaveDraft.UNKNOWN);
        Check.due("end(-1, 0)", x.end(-1, 0), WeaveDraft.UNKNOWN);
        WeaveDraft always = Check.told("draft 1 12 1 1");
        Check.due("end(0, 2)", always.end(0, 2), 12);
        Check.due("end(0, 3): no run at all", always.end(0, 3), 0);
        Check.due("end(0, 4)", always.end(0, 4), 0xfff);
    }

    private static void picks() {
        WeaveDraft x = Check.told("draft 6 1 2 1;draw 0 0;draw 1 1;draw 2 1;draw 3 1;draw 4 0;draw 5 0;weft 0 8");
        Check.clothIs("one pick", x, "xoooxx");
        int[] due = {0, 8, 3, 2, 0b110001, 1, 1};
        for (int what = 0; what < 7; what++) {
            Check.due("pick(0, " + what + ")", x.pick(0, what), due[what]);
        }
        Check.due("pick(0, 7)", x.pick(0, 7), WeaveDraft.OUTSIDE);
        Check.due("pick(0, -1)", x.pick(0, -1), WeaveDraft.OUTSIDE);
        Check.due("pick(1, 7)", x.pick(1, 7), WeaveDraft.UNKNOWN);
        Check.due("pick(-1, 0)", x.pick(-1, 0), WeaveDraft.UNKNOWN);
        WeaveDraft none = Check.told("draft 12 1 1 1;tie 0 0");
        Check.due("pick(0, 2)", none.pick(0, 2), 12);
        Check.due("pick(0, 3): no run at all", none.pick(0, 3), 0);
        Check.due("pick(0, 4)", none.pick(0, 4), 0);
    }

    private static void layers() {
        // a double cloth: the upper weft lifts upper ends alone, the lower one all of them and some lower ones
        WeaveDraft x = Check.told("draft 5 4 4 4;tie 1 0;tie 1 2;tie 3 0;tie 3 2");
        Check.clothIs("double cloth", x, "xooox xxxox ooxoo xoxxx");
        for (int j = 0; j < 4; j++) {
            Check.due("pick(" + j + ", 5)", x.pick(j, 5), 0);
            Check.due("pick(" + j + ", 6)", x.pick(j, 6), 0);
        }
        x.tie(0, 1);
        x.tie(0, 3);
        x.tie(1, 0);
        Check.clothIs("locked", x, "xxoxx oxxoo ooxoo xoxxx");
        Check.due("pick(0, 5)", x.pick(0, 5), 1);
        Check.due("pick(0, 6): lower ends that are up", x.pick(0, 6), 2);
        Check.due("pick(1, 5)", x.pick(1, 5), 1);
        Check.due("pick(1, 6): upper ends that are not", x.pick(1, 6), 2);
        Check.due("pick(2, 5)", x.pick(2, 5), 0);
        Check.due("count(8)", x.count(8), 4);
        WeaveDraft one = Check.told("draft 1 2 1 1;tie 0 0");
        Check.due("pick(0, 6): no lower end", one.pick(0, 6), 0);
        Check.due("pick(1, 6)", one.pick(1, 6), 1);
    }

    private static void treadles() {
        WeaveDraft x = Check.told("draft 4 4 3 5");
        int[] due = {1, 2, 4, 1, 2, WeaveDraft.UNKNOWN};
        for (int k = 0; k < due.length; k++) {
            Check.due("treadle(" + k + ")", x.treadle(k), due[k]);
        }
        Check.due("treadle(-1)", x.treadle(-1), WeaveDraft.UNKNOWN);
        Check.due("tie(4, 0)", x.tie(4, 0), 3);
        Check.due("treadle(4)", x.treadle(4), 3);
    }

    private static void crossings() {
        WeaveDraft x = Check.told("draft 3 2 2 2;warp 0 5;weft 1 6");
        Check.due("cross(0, 0, 0)", x.cross(0, 0, 0), 1);
        Check.due("cross(0, 0, 1): the end is seen", x.cross(0, 0, 1), 5);
        Check.due("cross(1, 0, 0)", x.cross(1, 0, 0), 0);
        Check.due("cross(1, 0, 1): the pick is seen", x.cross(1, 0, 1), 6);
        Check.due("cross(1, 2, 1)", x.cross(1, 2, 1), 6);
        Check.due("cross(0, 2, 1)", x.cross(0, 2, 1), 0);
        Check.due("cross(0, 0, 2)", x.cross(0, 0, 2), WeaveDraft.OUTSIDE);
        Check.due("cross(0, 0, -1)", x.cross(0, 0, -1), WeaveDraft.OUTSIDE);
        Check.due("cross(2, 0, 2)", x.cross(2, 0, 2), WeaveDraft.UNKNOWN);
        Check.due("cross(0, 3, 2)", x.cross(0, 3, 2), WeaveDraft.UNKNOWN);
        Check.due("cross(-1, 0, 0)", x.cross(-1, 0, 0), WeaveDraft.UNKNOWN);
        Check.due("cross(0, -1, 0)", x.cross(0, -1, 0), WeaveDraft.UNKNOWN);
    }

    private static void changes() {
        WeaveDraft x = new WeaveDraft();
        Check.due("draw(2, 1)", x.draw(2, 1), 0);
        Check.due("draw(2, 1)", x.draw(2, 1), 1);
        Check.due("end(2, 0)", x.end(2, 0), 1);
        Check.clothIs("drawn", x, "xooo oxxx xooo oxxx");
        Check.due("tie(1, 0)", x.tie(1, 0), 3);
        Check.due("tie(1, 1)", x.tie(1, 1), 1);
        Check.due("tie(1, 0)", x.tie(1, 0), 0);
        Check.clothIs("untied", x, "xooo oooo xooo oooo");
        Check.due("tread(3, 0)", x.tread(3, 0), 1);
        Check.due("tread(3, 0)", x.tread(3, 0), 0);
        Check.clothIs("trodden", x, "xooo oooo xooo xooo");
        Check.due("warp(3, 9)", x.warp(3, 9), 0);
        Check.due("warp(3, 0)", x.warp(3, 0), 9);
        Check.due("weft(3, 0)", x.weft(3, 0), 1);
        Check.due("weft(3, 9)", x.weft(3, 9), 0);
        Check.due("end(3, 1)", x.end(3, 1), 0);
        Check.due("pick(3, 1)", x.pick(3, 1), 9);
    }

    private static void refusals() {
        WeaveDraft x = Check.told("draft 3 5 2 4");
        x.draw(0, 0);
        String was = Check.all(x);
        int[] wrong = {-1, LEAST, MOST};
        for (int n : wrong) {
            unknown("draw", x.draw(n, 0), x.draw(0, n));
            unknown("tie", x.tie(n, 0), x.tie(0, n));
            unknown("tread", x.tread(n, 0), x.tread(0, n));
            unknown("warp", x.warp(n, 0), x.warp(n, n));
            unknown("weft", x.weft(n, 0), x.weft(n, n));
            Check.due("warp(0, " + n + ")", x.warp(0, n), WeaveDraft.OUTSIDE);
            Check.due("weft(0, " + n + ")", x.weft(0, n), WeaveDraft.OUTSIDE);
            unknown("end, pick", x.end(n, n), x.pick(n, n));
            unknown("cross", x.cross(n, 0, n), x.cross(0, n, n));
        }
        unknown("draw", x.draw(3, 0), x.draw(0, 2));
        unknown("tie", x.tie(4, 0), x.tie(0, 2));
        unknown("tread", x.tread(5, 0), x.tread(0, 4));
        unknown("warp, weft", x.warp(3, 10), x.weft(5, 10));
        Check.due("warp(2, 10)", x.warp(2, 10), WeaveDraft.OUTSIDE);
        Check.due("weft(4, 10)", x.weft(4, 10), WeaveDraft.OUTSIDE);
        Check.holds("refused calls change nothing", was.equals(Check.all(x)));
    }

    private static void unknown(String what, int one, int other) {
        Check.due(what, one, WeaveDraft.UNKNOWN);
        Check.due(what, other, WeaveDraft.UNKNOWN);
    }
}
