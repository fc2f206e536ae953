/** Promises 24 to 30: spools of thread. */
public final class SpoolTest {
    private static final int[] WRONG = {-1, 3, Integer.MIN_VALUE, Integer.MAX_VALUE};

    public static void main(String[] args) {
        unknownSpools();
        missingSpools();
        made();
        wound();
        pulled();
        knotted();
        measured();
        rewound();
        dropped();
        apartFromTheDraft();
        Check.finish();
    }

    private static WeaveDraft with(int... lengths) {
        WeaveDraft x = new WeaveDraft();
        x.spool(0);
        for (int i = 0; i < lengths.length; i++) {
            Check.due("wind(0, " + lengths[i] + ")", x.wind(0, lengths[i]), i + 1);
        }
        return x;
    }

    /** Takes all threads off, topmost first, to see that they are those. */
    private static void threadsAre(WeaveDraft x, int spool, int... topmostFirst) {
        for (int i = 0; i < topmostFirst.length; i++) {
            Check.due("measure(" + spool + ", 2)", x.measure(spool, 2), topmostFirst[i]);
            Check.due("pull", x.pull(spool, topmostFirst[i]), topmostFirst.length - 1 - i);
        }
        Check.due("measure(" + spool + ", 2)", x.measure(spool, 2), WeaveDraft.EMPTY);
    }

    private static void unknownSpools() {
        WeaveDraft x = with(5);
        for (int n : WRONG) {
            Check.due("spool", x.spool(n), WeaveDraft.UNKNOWN);
            Check.due("wind", x.wind(n, 0), WeaveDraft.UNKNOWN);
            Check.due("pull", x.pull(n, 0), WeaveDraft.UNKNOWN);
            Check.due("knot", x.knot(n), WeaveDraft.UNKNOWN);
            Check.due("measure", x.measure(n, 9), WeaveDraft.UNKNOWN);
            Check.due("rewind", x.rewind(n, 1), WeaveDraft.UNKNOWN);
            Check.due("rewind", x.rewind(1, n), WeaveDraft.UNKNOWN);
            Check.due("drop", x.drop(n), WeaveDraft.UNKNOWN);
        }
        Check.due("rewind(1, 1): missing, but the same one", x.rewind(1, 1), WeaveDraft.UNKNOWN);
        Check.due("rewind(0, 0)", x.rewind(0, 0), WeaveDraft.UNKNOWN);
        threadsAre(x, 0, 5);
    }

    private static void missingSpools() {
        WeaveDraft x = with(5);
        Check.due("wind(1, 0)", x.wind(1, 0), WeaveDraft.OUTSIDE);
        Check.due("wind(1, 1)", x.wind(1, 1), WeaveDraft.NULL);
        Check.due("pull(1, 1000)", x.pull(1, 1000), WeaveDraft.OUTSIDE);
        Check.due("pull(1, 1)", x.pull(1, 1), WeaveDraft.NULL);
        Check.due("knot(1)", x.knot(1), WeaveDraft.NULL);
        Check.due("measure(1, 4)", x.measure(1, 4), WeaveDraft.OUTSIDE);
        for (int what = 0; what < 4; what++) {
            Check.due("measure(1, " + what + ")", x.measure(1, what), WeaveDraft.NULL);
        }
        Check.due("rewind(0, 1)", x.rewind(0, 1), WeaveDraft.NULL);
        Check.due("rewind(1, 0)", x.rewind(1, 0), WeaveDraft.NULL);
        Check.due("drop(1)", x.drop(1), WeaveDraft.NULL);
        threadsAre(x, 0, 5);
    }

    private static void made() {
        WeaveDraft x = with(5, 6);
        Check.due("spool(0) once more", x.spool(0), 0);
        Check.due("measure(0, 0)", x.measure(0, 0), 0);
        Check.due("wind(0, 7)", x.wind(0, 7), 1);
        Check.due("spool(2)", x.spool(2), 0);
        Check.due("measure(2, 0)", x.measure(2, 0), 0);
        Check.due("drop(1)", x.drop(1), WeaveDraft.NULL);
    }

    private static void wound() {
        WeaveDraft x = with(1, 99, 3, 4, 5, 6, 7);
        Check.due("wind(0, 0)", x.wind(0, 0), WeaveDraft.OUTSIDE);
        Check.due("wind(0, 100)", x.wind(0, 100), WeaveDraft.OUTSIDE);
        Check.due("wind(0, least)", x.wind(0, Integer.MIN_VALUE), WeaveDraft.OUTSIDE);
        Check.due("wind(0, 8)", x.wind(0, 8), 8);
        Check.due("wind(0, 9)", x.wind(0, 9), WeaveDraft.ROOM);
        Check.due("wind(0, 100) of a full one", x.wind(0, 100), WeaveDraft.OUTSIDE);
        threadsAre(x, 0, 8, 7, 6, 5, 4, 3, 99, 1);
    }

    private static void pulled() {
        WeaveDraft x = with(10, 20, 30);
        Check.due("pull(0, 0)", x.pull(0, 0), WeaveDraft.OUTSIDE);
        Check.due("pull(0, 1000)", x.pull(0, 1000), WeaveDraft.OUTSIDE);
        Check.due("pull(0, 61)", x.pull(0, 61), WeaveDraft.SHORT);
        Check.due("pull(0, 999)", x.pull(0, 999), WeaveDraft.SHORT);
        Check.due("measure(0, 0): nothing changed", x.measure(0, 0), 60);
        Check.due("pull(0, 1): cut", x.pull(0, 1), 3);
        Check.due("measure(0, 2)", x.measure(0, 2), 29);
        Check.due("pull(0, 29): just one", x.pull(0, 29), 2);
        Check.due("measure(0, 2)", x.measure(0, 2), 20);
        Check.due("pull(0, 21)", x.pull(0, 21), 1);
        Check.due("measure(0, 2)", x.measure(0, 2), 9);
        Check.due("pull(0, 9)", x.pull(0, 9), 0);
        Check.due("pull(0, 1) of none", x.pull(0, 1), WeaveDraft.SHORT);
        x = with(99, 99, 99, 99, 99, 99, 99, 99);
        Check.due("pull(0, 792)", x.pull(0, 792), 0);
    }

    private static void knotted() {
        WeaveDraft x = with();
        Check.due("knot(0) of none", x.knot(0), WeaveDraft.EMPTY);
        x.wind(0, 40);
        Check.due("knot(0) of one", x.knot(0), WeaveDraft.NOT);
        x.wind(0, 9);
        x.wind(0, 50);
        Check.due("knot(0)", x.knot(0), 59);
        Check.due("measure(0, 0)", x.measure(0, 0), 99);
        Check.due("knot(0)", x.knot(0), 99);
        x.wind(0, 1);
        Check.due("knot(0): what is more falls away", x.knot(0), 99);
        threadsAre(x, 0, 99);
    }

    private static void measured() {
        WeaveDraft x = with();
        int[] none = {0, WeaveDraft.EMPTY, WeaveDraft.EMPTY, 0};
        for (int what = 0; what < 4; what++) {
            Check.due("measure(0, " + what + ") of none", x.measure(0, what), none[what]);
        }
        x = with(5, 5, 6, 2, 8, 7);
        int[] due = {33, 8, 7, 2};
        for (int what = 0; what < 4; what++) {
            Check.due("measure(0, " + what + ")", x.measure(0, what), due[what]);
        }
        Check.due("measure(0, 4)", x.measure(0, 4), WeaveDraft.OUTSIDE);
        Check.due("measure(0, -1)", x.measure(0, -1), WeaveDraft.OUTSIDE);
        x.spool(0);
        x.wind(0, 4);
        measuredAll("threads of the old spool do not count", x, 4, 4, 4, 0);
        measuredAll("a full spool", with(99, 98, 97, 96, 95, 94, 93, 92), 764, 99, 92, 0);
        measuredAll("a full spool", with(1, 2, 3, 4, 5, 6, 7, 8), 36, 8, 8, 7);
        x = with(3, 20, 30, 50);
        x.spool(1);
        x.rewind(0, 1);
        x.wind(0, 10);
        measuredAll("rewound threads do not count", x, 10, 10, 10, 0);
        x = with(60, 5, 30);
        x.knot(0);
        measuredAll("knotted", x, 95, 60, 35, 0);
        x.pull(0, 36);
        measuredAll("cut", x, 59, 59, 59, 0);
    }

    private static void measuredAll(String when, WeaveDraft x, int... due) {
        for (int what = 0; what < 4; what++) {
            Check.due(when + ": measure(0, " + what + ")", x.measure(0, what), due[what]);
        }
    }

    private static void rewound() {
        WeaveDraft x = with(1, 2, 3);
        x.spool(2);
        x.wind(2, 9);
        Check.due("rewind(0, 2)", x.rewind(0, 2), 4);
        Check.due("measure(0, 0): empty, not missing", x.measure(0, 0), 0);
        Check.due("rewind(0, 2) of none", x.rewind(0, 2), 4);
        x.wind(0, 11);
        x.wind(0, 12);
        x.wind(0, 13);
        x.wind(0, 14);
        x.wind(0, 15);
        Check.due("rewind(0, 2): 9 would be more", x.rewind(0, 2), WeaveDraft.ROOM);
        Check.due("measure(0, 0)", x.measure(0, 0), 65);
        x.pull(0, 15);
        Check.due("rewind(0, 2): 8 are not", x.rewind(0, 2), 8);
        threadsAre(x, 2, 11, 12, 13, 14, 1, 2, 3, 9);
    }

    private static void dropped() {
        WeaveDraft x = with(1, 2, 3);
        Check.due("drop(0)", x.drop(0), 3);
        Check.due("drop(0)", x.drop(0), WeaveDraft.NULL);
        Check.due("wind(0, 1)", x.wind(0, 1), WeaveDraft.NULL);
        Check.due("count(13)", x.count(13), 0);
        x.spool(0);
        Check.due("measure(0, 0)", x.measure(0, 0), 0);
        Check.due("drop(0) of none", x.drop(0), 0);
    }

    private static void apartFromTheDraft() {
        WeaveDraft x = with(4, 5);
        x.keep(0);
        x.turn();
        x.undo();
        x.back(0);
        x.write(65);
        x.draft();
        threadsAre(x, 0, 5, 4);
    }
}
