/** The edges of the spools, promises 24 to 30: empty and full ones, the shortest and longest threads. */
public final class SpoolEdgesTest {
    private static final int NULL = WeaveDraft.NULL, EMPTY = WeaveDraft.EMPTY, ROOM = WeaveDraft.ROOM, SHORT = WeaveDraft.SHORT;

    public static void main(String[] args) {
        everySpool();
        everyLength();
        everyNumberOfThreads();
        pulledAtEveryPlace();
        pulledOfAFullOne();
        cutThreads();
        knottedToTheMost();
        knottedDown();
        measuredShortest();
        longerThanTheOneBelow();
        rewoundOfEveryNumber();
        rewoundForthAndBack();
        rewoundByEach();
        madeAnew();
        allFull();
        missingBehindAText();
        Check.finish();
    }

    private static WeaveDraft with(int spool, int... lengths) {
        WeaveDraft x = new WeaveDraft();
        Check.due("spool(" + spool + ")", x.spool(spool), 0);
        for (int i = 0; i < lengths.length; i++) {
            Check.due("wind(" + spool + ", " + lengths[i] + ")", x.wind(spool, lengths[i]), i + 1);
        }
        return x;
    }

    private static void measured(String when, WeaveDraft x, int spool, int... due) {
        for (int what = 0; what < 4; what++) {
            Check.due(when + ": measure(" + spool + ", " + what + ")", x.measure(spool, what), due[what]);
        }
    }

    /** Takes the threads off one by one. */
    private static void threadsAre(String when, WeaveDraft x, int spool, int... topmostFirst) {
        for (int i = 0; i < topmostFirst.length; i++) {
            Check.due(when + ": topmost", x.measure(spool, 2), topmostFirst[i]);
            Check.due(when + ": left", x.pull(spool, topmostFirst[i]), topmostFirst.length - 1 - i);
        }
        Check.due(when + ": none", x.measure(spool, 2), EMPTY);
    }

    /** 'SPOOLS 0 .. 2 are missing (at first)': each is for itself. */
    private static void everySpool() {
        for (int spool = 0; spool < 3; spool++) {
            WeaveDraft x = with(spool, 7, 8);
            for (int other = 0; other < 3; other++) {
                Check.due("measure(" + other + ", 0)", x.measure(other, 0), other == spool ? 15 : NULL);
                Check.due("measure(" + other + ", 2)", x.measure(other, 2), other == spool ? 8 : NULL);
            }
            Check.due("drop(" + spool + ")", x.drop(spool), 2);
            Check.due("measure(" + spool + ", 0)", x.measure(spool, 0), NULL);
            Check.due("drop(" + spool + ") once more", x.drop(spool), NULL);
            Check.due("spool(" + spool + ")", x.spool(spool), 0);
            measured("new once more", x, spool, 0, EMPTY, EMPTY, 0);
        }
    }

    /** 'of lengths 1 .. 99'. */
    private static void everyLength() {
        for (int length = -2; length <= 130; length++) {
            WeaveDraft x = with(1);
            boolean asTold = length >= 1 && length <= 99;
            Check.due("wind(1, " + length + ")", x.wind(1, length), asTold ? 1 : WeaveDraft.OUTSIDE);
            Check.due("measure(1, 0)", x.measure(1, 0), asTold ? length : 0);
            Check.due("measure(1, 2)", x.measure(1, 2), asTold ? length : EMPTY);
        }
    }

    /** 'have 0 to 8 threads', 'ROOM -13 (there would be more than 8)'. */
    private static void everyNumberOfThreads() {
        WeaveDraft x = with(2);
        for (int threads = 0; threads < 8; threads++) {
            Check.due("count(13)", x.count(13), threads);
            Check.due("wind(2, 3)", x.wind(2, 3), threads + 1);
        }
        Check.due("wind(2, 3): the ninth", x.wind(2, 3), ROOM);
        Check.due("count(13)", x.count(13), 8);
        Check.due("measure(2, 0)", x.measure(2, 0), 24);
        Check.due("pull(2, 1): cut, there is no room by that", x.pull(2, 1), 8);
        Check.due("wind(2, 3)", x.wind(2, 3), ROOM);
        Check.due("pull(2, 2)", x.pull(2, 2), 7);
        Check.due("wind(2, 3)", x.wind(2, 3), 8);
        Check.due("knot(2)", x.knot(2), 6);
        Check.due("wind(2, 3): room by a knot", x.wind(2, 3), 8);
        Check.due("wind(2, 3)", x.wind(2, 3), ROOM);
        Check.due("drop(2)", x.drop(2), 8);
    }

    /** 'taken off, from the topmost on, the last one that is touched is cut', 'SHORT (there is not so much thread)'. */
    private static void pulledAtEveryPlace() {
        int[] lengths = {4, 1, 3, 2};
        for (int length = 1; length <= 11; length++) {
            WeaveDraft x = with(0, lengths);
            // thread by thread, a piece of 1 each
            int[] left = lengths.clone();
            int threads = 4;
            for (int piece = 0; piece < length && threads > 0; piece++) {
                left[threads - 1]--;
                threads -= left[threads - 1] == 0 ? 1 : 0;
            }
            Check.due("pull(0, " + length + ")", x.pull(0, length), length <= 10 ? threads : SHORT);
            Check.due("measure(0, 0)", x.measure(0, 0), length <= 10 ? 10 - length : 10);
            int topmost = threads == 0 ? EMPTY : left[threads - 1];
            Check.due("measure(0, 2)", x.measure(0, 2), length <= 10 ? topmost : 2);
            Check.due("count(13)", x.count(13), length <= 10 ? threads : 4);
        }
    }

    /** 'So much (1 .. 999)': a full spool of the longest has 792. */
    private static void pulledOfAFullOne() {
        int[] lengths = {1, 98, 99, 100, 198, 199, 791, 792, 793, 999, 1000, 0};
        int[] due = {8, 8, 7, 7, 6, 6, 1, 0, SHORT, SHORT, WeaveDraft.OUTSIDE, WeaveDraft.OUTSIDE};
        int[] topmost = {98, 1, 99, 98, 99, 98, 1, EMPTY, 99, 99, 99, 99};
        for (int i = 0; i < lengths.length; i++) {
            WeaveDraft x = with(0, 99, 99, 99, 99, 99, 99, 99, 99);
            Check.due("pull(0, " + lengths[i] + ")", x.pull(0, lengths[i]), due[i]);
            Check.due("measure(0, 2)", x.measure(0, 2), topmost[i]);
            Check.due("measure(0, 0)", x.measure(0, 0), due[i] < 0 ? 792 : 792 - lengths[i]);
        }
        WeaveDraft x = with(0);
        Check.due("pull(0, 1) of none", x.pull(0, 1), SHORT);
        Check.due("pull(0, 999) of none", x.pull(0, 999), SHORT);
        Check.due("pull(0, 1000) of none", x.pull(0, 1000), WeaveDraft.OUTSIDE);
    }

    private static void cutThreads() {
        WeaveDraft x = with(0, 9, 8, 7);
        Check.due("pull(0, 10)", x.pull(0, 10), 2);
        Check.due("wind(0, 99) over a cut one", x.wind(0, 99), 3);
        measured("cut", x, 0, 113, 99, 99, 1);
        threadsAre("cut", x, 0, 99, 5, 9);
    }

    /** 'its length (99 at most; what is more falls away)'. */
    private static void knottedToTheMost() {
        int[][] cases = {{1, 1, 2}, {1, 97, 98}, {1, 98, 99}, {98, 1, 99}, {1, 99, 99}, {99, 1, 99}, {50, 50, 99}, {99, 99, 99}};
        for (int[] one : cases) {
            WeaveDraft x = with(0, 33, one[0], one[1]);
            Check.due("knot(0) of " + one[0] + " and " + one[1], x.knot(0), one[2]);
            Check.due("count(13)", x.count(13), 2);
            measured("knotted", x, 0, 33 + one[2], Math.max(33, one[2]), one[2], one[2] > 33 ? 1 : 0);
            threadsAre("knotted", x, 0, one[2], 33);
        }
    }

    /** 'EMPTY (none); NOT (one alone)': a full spool is knotted to one, then no more. */
    private static void knottedDown() {
        WeaveDraft x = with(0, 1, 2, 3, 4, 5, 6, 7, 8);
        int[] due = {15, 21, 26, 30, 33, 35, 36};
        for (int i = 0; i < due.length; i++) {
            Check.due("knot(0)", x.knot(0), due[i]);
            Check.due("count(13)", x.count(13), 7 - i);
        }
        Check.due("knot(0) of one alone", x.knot(0), WeaveDraft.NOT);
        measured("one alone", x, 0, 36, 36, 36, 0);
        Check.due("pull(0, 36)", x.pull(0, 36), 0);
        Check.due("knot(0) of none", x.knot(0), EMPTY);
        Check.due("drop(0)", x.drop(0), 0);
        Check.due("knot(0) of a missing one", x.knot(0), NULL);
    }

    private static void measuredShortest() {
        measured("none", with(1), 1, 0, EMPTY, EMPTY, 0);
        measured("the shortest", with(1, 1), 1, 1, 1, 1, 0);
        measured("the longest", with(1, 99), 1, 99, 99, 99, 0);
        measured("the longest is lowest", with(1, 9, 1, 1), 1, 11, 9, 1, 0);
        measured("the longest is topmost", with(1, 1, 1, 9), 1, 11, 9, 9, 1);
        measured("full", with(1, 99, 99, 99, 99, 99, 99, 99, 99), 1, 792, 99, 99, 0);
    }

    /** 'how many are longer than the one below': just as long is not longer. */
    private static void longerThanTheOneBelow() {
        Check.due("just as long", with(0, 5, 5).measure(0, 3), 0);
        Check.due("longer by 1", with(0, 5, 6).measure(0, 3), 1);
        Check.due("shorter by 1", with(0, 5, 4).measure(0, 3), 0);
        Check.due("than the one below, not than all", with(0, 9, 1, 2, 1, 2).measure(0, 3), 2);
        Check.due("all but the lowest", with(0, 1, 2, 3, 4, 5, 6, 7, 8).measure(0, 3), 7);
        Check.due("none", with(0, 8, 7, 6, 5, 4, 3, 2, 1).measure(0, 3), 0);
    }

    /** 'ROOM': 8 together are not too many, 9 are. */
    private static void rewoundOfEveryNumber() {
        for (int from = 0; from <= 8; from++) {
            for (int to = 0; to <= 8; to++) {
                WeaveDraft x = new WeaveDraft();
                x.spool(2);
                x.spool(1);
                for (int i = 0; i < from; i++) {
                    x.wind(2, 10 + i);
                }
                for (int i = 0; i < to; i++) {
                    x.wind(1, 20 + i);
                }
                boolean room = from + to <= 8;
                Check.due("rewind(2, 1) of " + from + " to " + to, x.rewind(2, 1), room ? from + to : ROOM);
                Check.due("count(13)", x.count(13), from + to);
                // the topmost was wound over first, so the lowest is topmost now
                int lowest = from > 0 ? 10 : to > 0 ? 20 + to - 1 : EMPTY;
                Check.due("measure(1, 2)", x.measure(1, 2), room ? lowest : 20 + to - 1);
                Check.due("drop(2)", x.drop(2), room ? 0 : from);
                Check.due("drop(1)", x.drop(1), room ? from + to : to);
            }
        }
    }

    private static void rewoundForthAndBack() {
        WeaveDraft x = with(0, 1, 2, 3, 4, 5, 6, 7, 8);
        x.spool(1);
        Check.due("rewind(0, 1): all eight", x.rewind(0, 1), 8);
        measured("all are over", x, 0, 0, EMPTY, EMPTY, 0);
        measured("the other way about", x, 1, 36, 8, 1, 0);
        Check.due("rewind(0, 1): none to a full one", x.rewind(0, 1), 8);
        Check.due("rewind(1, 0)", x.rewind(1, 0), 8);
        threadsAre("forth and back", x, 0, 8, 7, 6, 5, 4, 3, 2, 1);
        Check.due("rewind(0, 1): none to none", x.rewind(0, 1), 0);
    }

    private static void rewoundByEach() {
        for (int from = 0; from < 3; from++) {
            for (int to = 0; to < 3; to++) {
                if (from != to) {
                    WeaveDraft x = with(from, 5, 6);
                    Check.due("rewind to a missing one", x.rewind(from, to), NULL);
                    Check.due("rewind of a missing one", x.rewind(to, from), NULL);
                    x.spool(to);
                    x.wind(to, 7);
                    Check.due("rewind(" + from + ", " + to + ")", x.rewind(from, to), 3);
                    Check.due("measure(from, 0)", x.measure(from, 0), 0);
                    threadsAre("rewound", x, to, 5, 6, 7);
                }
            }
        }
    }

    /** 'A SPOOL is a new one, with nothing: 0': also one that is there, and full. */
    private static void madeAnew() {
        WeaveDraft x = with(0, 9, 9, 9, 9, 9, 9, 9, 9);
        Check.due("spool(0)", x.spool(0), 0);
        measured("new", x, 0, 0, EMPTY, EMPTY, 0);
        Check.due("wind(0, 2)", x.wind(0, 2), 1);
        measured("wound", x, 0, 2, 2, 2, 0);
        Check.due("drop(0)", x.drop(0), 1);
    }

    /** 'threads of all SPOOLS'. */
    private static void allFull() {
        WeaveDraft x = new WeaveDraft();
        Check.due("count(13): all missing", x.count(13), 0);
        for (int spool = 0; spool < 3; spool++) {
            x.spool(spool);
            for (int i = 1; i <= 8; i++) {
                Check.due("wind", x.wind(spool, 99), i);
                Check.due("count(13)", x.count(13), 8 * spool + i);
            }
        }
        Check.due("rewind(0, 2)", x.rewind(0, 2), ROOM);
        Check.due("count(13)", x.count(13), 24);
        for (int spool = 0; spool < 3; spool++) {
            Check.due("drop", x.drop(spool), 8);
            Check.due("count(13)", x.count(13), 16 - 8 * spool);
        }
    }

    /** 'Behind them .. SPOOLS are all missing': behind clauses that are done, not behind a fault. */
    private static void missingBehindAText() {
        WeaveDraft x = with(0, 1, 2);
        x.spool(1);
        x.spool(2);
        x.wind(2, 3);
        Check.write(x, "clear;");
        Check.due("draft()", x.draft(), WeaveDraft.NOT);
        Check.due("count(13)", x.count(13), 3);
        Check.due("measure(1, 0)", x.measure(1, 0), 0);
        Check.tell(x, "clear");
        Check.due("count(13)", x.count(13), 0);
        for (int spool = 0; spool < 3; spool++) {
            Check.due("measure(" + spool + ", 0)", x.measure(spool, 0), NULL);
            Check.due("spool(" + spool + ")", x.spool(spool), 0);
            measured("new", x, spool, 0, EMPTY, EMPTY, 0);
        }
    }
}
