import java.util.function.ToIntFunction;

/**
 * Every answer by which a call is refused: the first that fits in the document's order where there are
 * several reasons at once, and, as later calls show it, nothing has changed.
 */
public final class RefusalTest {
    private static final int NONE = WeaveDraft.NONE, UNKNOWN = WeaveDraft.UNKNOWN, OUTSIDE = WeaveDraft.OUTSIDE, NOT = WeaveDraft.NOT;
    private static final int FULL = WeaveDraft.FULL, NULL = WeaveDraft.NULL, EMPTY = WeaveDraft.EMPTY, ROOM = WeaveDraft.ROOM, SHORT = WeaveDraft.SHORT;
    private static final int LEAST = Integer.MIN_VALUE, MOST = Integer.MAX_VALUE;
    // beside the first that is not as told, those that a shift, a remainder or a sum would bring back
    private static final int[] BELOW = {-1, -2, -12, -32, LEAST, LEAST + 1};
    private static final int[] FAR = {13, 16, 32, 64, 100, 256, 65536, 1 << 30, MOST - 1, MOST};

    private interface Maker {
        WeaveDraft make();
    }

    private final String name;
    private final Maker maker;
    private final String untouched;

    private RefusalTest(String name, Maker maker) {
        this.name = name;
        this.maker = maker;
        untouched = everything(maker.make());
    }

    public static void main(String[] args) {
        // sizes that differ, so that no bound can stand for another one
        RefusalTest one = new RefusalTest("busy 3 5 2 4", () -> busy("draft 3 5 2 4"));
        one.ofTheDraft(3, 5, 2, 4);
        one.ofAll();
        one.ofTheBusy();
        RefusalTest other = new RefusalTest("busy 5 3 4 2", () -> busy("draft 5 3 4 2"));
        other.ofTheDraft(5, 3, 4, 2);
        other.ofAll();
        RefusalTest full = new RefusalTest("full", RefusalTest::full);
        full.ofAll();
        full.ofTheFull();
        RefusalTest fresh = new RefusalTest("new", WeaveDraft::new);
        fresh.ofTheDraft(4, 4, 2, 2);
        fresh.ofAll();
        fresh.ofTheNew();
        Check.finish();
    }

    /** Two steps to undo, one draft kept, a text with a fault, a sample; a spool of 5, a missing one, an empty one. */
    private static WeaveDraft busy(String draft) {
        WeaveDraft x = Check.told(draft + ";row xxo;row oxo");
        x.warp(1, 4);
        x.keep(0);
        x.turn();
        x.turn();
        x.draw(1, 0);
        x.spool(0);
        int[] lengths = {5, 5, 6, 2, 8};
        for (int length : lengths) {
            x.wind(0, length);
        }
        x.spool(2);
        Check.write(x, "warp 0 7;draw 99 0");
        return x;
    }

    /** As much as there can be: 8 steps, a full text, a spool of 8, one of a single thread, a missing one; a sample too large. */
    private static WeaveDraft full() {
        WeaveDraft x = Check.told("row xoxoxox;row xxooxxo;row xxxxooo");
        for (int colour = 0; colour < 10; colour++) {
            x.weft(3, colour);
        }
        x.keep(1);
        x.spool(0);
        for (int i = 0; i < 8; i++) {
            x.wind(0, 99);
        }
        x.spool(1);
        x.wind(1, 1);
        Check.write(x, " ".repeat(199) + "?");
        return x;
    }

    /** What an object tells, also by calls that change it: so it is asked only once. */
    private static String everything(WeaveDraft x) {
        StringBuilder all = new StringBuilder(Check.all(x));
        all.append(" fault ").append(x.fault());
        int left = x.count(14);
        for (int step = 0; step < left; step++) {
            all.append(" undo ").append(x.undo()).append(' ').append(step == left - 1 ? Check.draftOnly(x) : "");
        }
        for (int k = 0; k < 2; k++) {
            all.append(" back ").append(x.back(k)).append(' ').append(Check.draftOnly(x));
        }
        for (int spool = 0; spool < 3; spool++) {
            all.append(" spool ");
            for (int thread = 0; thread < 9 && x.measure(spool, 2) > 0; thread++) {
                int topmost = x.measure(spool, 2);
                all.append(topmost).append(',').append(x.pull(spool, topmost)).append(',');
            }
            all.append(x.drop(spool));
        }
        return all.append(' ').append(x.erase()).toString();
    }

    private void refused(String call, int due, ToIntFunction<WeaveDraft> it) {
        WeaveDraft x = maker.make();
        Check.due(name + ": " + call, it.applyAsInt(x), due);
        Check.holds(name + ": " + call + " changes nothing", everything(x).equals(untouched));
    }

    private static int[] notBelow(int bound) {
        int[] wrong = new int[BELOW.length + FAR.length + 1];
        System.arraycopy(BELOW, 0, wrong, 0, BELOW.length);
        System.arraycopy(FAR, 0, wrong, BELOW.length, FAR.length);
        wrong[wrong.length - 1] = bound;
        return wrong;
    }

    private void ofTheDraft(int ends, int picks, int shafts, int treadles) {
        for (int i : notBelow(ends)) {
            refused("draw(" + i + ", 0)", UNKNOWN, x -> x.draw(i, 0));
            refused("draw(" + i + ", " + shafts + ")", UNKNOWN, x -> x.draw(i, shafts));
            refused("warp(" + i + ", 9)", UNKNOWN, x -> x.warp(i, 9));
            refused("warp(" + i + ", 10)", UNKNOWN, x -> x.warp(i, 10));
            refused("end(" + i + ", 0)", UNKNOWN, x -> x.end(i, 0));
            refused("end(" + i + ", 5)", UNKNOWN, x -> x.end(i, 5));
            refused("cross(0, " + i + ", 0)", UNKNOWN, x -> x.cross(0, i, 0));
            refused("cross(0, " + i + ", 2)", UNKNOWN, x -> x.cross(0, i, 2));
            refused("changed(0, " + i + ")", UNKNOWN, x -> x.changed(0, i));
            refused("changed(" + i + ", 0)", UNKNOWN, x -> x.changed(i, 0));
            refused("changed(" + i + ", " + i + ")", UNKNOWN, x -> x.changed(i, i));
        }
        for (int j : notBelow(picks)) {
            refused("tread(" + j + ", 0)", UNKNOWN, x -> x.tread(j, 0));
            refused("tread(" + j + ", " + treadles + ")", UNKNOWN, x -> x.tread(j, treadles));
            refused("weft(" + j + ", 9)", UNKNOWN, x -> x.weft(j, 9));
            refused("weft(" + j + ", -1)", UNKNOWN, x -> x.weft(j, -1));
            refused("pick(" + j + ", 0)", UNKNOWN, x -> x.pick(j, 0));
            refused("pick(" + j + ", 7)", UNKNOWN, x -> x.pick(j, 7));
            refused("cross(" + j + ", 0, 0)", UNKNOWN, x -> x.cross(j, 0, 0));
            refused("cross(" + j + ", " + ends + ", -1)", UNKNOWN, x -> x.cross(j, ends, -1));
            refused("tamed(" + j + ", 1)", UNKNOWN, x -> x.tamed(j, 1));
            refused("tamed(" + j + ", 0)", UNKNOWN, x -> x.tamed(j, 0));
            refused("tamed(" + j + ", 13)", UNKNOWN, x -> x.tamed(j, 13));
        }
        for (int k : notBelow(shafts)) {
            refused("draw(0, " + k + ")", UNKNOWN, x -> x.draw(0, k));
            refused("tie(0, " + k + ")", UNKNOWN, x -> x.tie(0, k));
        }
        for (int k : notBelow(treadles)) {
            refused("tie(" + k + ", 0)", UNKNOWN, x -> x.tie(k, 0));
            refused("tie(" + k + ", " + shafts + ")", UNKNOWN, x -> x.tie(k, shafts));
            refused("tread(0, " + k + ")", UNKNOWN, x -> x.tread(0, k));
            refused("treadle(" + k + ")", UNKNOWN, x -> x.treadle(k));
        }
        for (int i = 0; i < ends; i++) {
            int end = i;
            refused("changed(" + i + ", " + i + "): one END twice", UNKNOWN, x -> x.changed(end, end));
        }
    }

    /** What is refused whatever the object is like; a number is OUTSIDE though the spool is missing, full, empty. */
    private void ofAll() {
        for (int n : notBelow(16)) {
            refused("count(" + n + ")", n == 13 ? maker.make().count(13) : OUTSIDE, x -> x.count(n));
            refused("least(" + n + ")", OUTSIDE, x -> x.least(n));
            refused("end(0, " + n + ")", OUTSIDE, x -> x.end(0, n));
            refused("pick(0, " + n + ")", OUTSIDE, x -> x.pick(0, n));
            refused("cross(0, 0, " + n + ")", OUTSIDE, x -> x.cross(0, 0, n));
            refused("warp(0, " + n + ")", OUTSIDE, x -> x.warp(0, n));
            refused("weft(0, " + n + ")", OUTSIDE, x -> x.weft(0, n));
            refused("tamed(0, " + n + ")", OUTSIDE, x -> x.tamed(0, n));
            refused("keep(" + n + ")", UNKNOWN, x -> x.keep(n));
            refused("back(" + n + ")", UNKNOWN, x -> x.back(n));
            refused("measure(0, " + n + ")", OUTSIDE, x -> x.measure(0, n));
            refused("measure(1, " + n + ")", OUTSIDE, x -> x.measure(1, n));
            refused("measure(2, " + n + ")", OUTSIDE, x -> x.measure(2, n));
            refused("measure(" + n + ", 4)", UNKNOWN, x -> x.measure(n, 4));
        }
        firstBeyond();
        for (int n : BELOW) {
            refused("write(" + n + ")", OUTSIDE, x -> x.write(n));
            refused("sampled(" + n + ", 0)", OUTSIDE, x -> x.sampled(n, 0));
            refused("sampled(0, " + n + ")", OUTSIDE, x -> x.sampled(0, n));
            refused("sampled(" + n + ", 99): there is none, too", OUTSIDE, x -> x.sampled(n, 99));
            refused("sampled(99, " + n + "): there is none, too", OUTSIDE, x -> x.sampled(99, n));
        }
        for (int spool = 0; spool < 3; spool++) {
            lengthsOutside(spool);
        }
        for (int n : notBelow(3)) {
            unknownSpool(n);
        }
    }

    private void firstBeyond() {
        refused("least(5)", OUTSIDE, x -> x.least(5));
        refused("end(0, 5)", OUTSIDE, x -> x.end(0, 5));
        refused("pick(0, 7)", OUTSIDE, x -> x.pick(0, 7));
        refused("cross(0, 0, 2)", OUTSIDE, x -> x.cross(0, 0, 2));
        refused("warp(0, 10)", OUTSIDE, x -> x.warp(0, 10));
        refused("weft(0, 10)", OUTSIDE, x -> x.weft(0, 10));
        refused("tamed(0, 0)", OUTSIDE, x -> x.tamed(0, 0));
        refused("keep(2)", UNKNOWN, x -> x.keep(2));
        refused("back(2)", UNKNOWN, x -> x.back(2));
        refused("write(256)", OUTSIDE, x -> x.write(256));
        refused("write(most)", OUTSIDE, x -> x.write(MOST));
        refused("sampled(12, 0)", NONE, x -> x.sampled(12, 0));
        refused("sampled(0, 12)", NONE, x -> x.sampled(0, 12));
        refused("sampled(0, 32)", NONE, x -> x.sampled(0, 32));
        refused("sampled(most, most)", NONE, x -> x.sampled(MOST, MOST));
    }

    private void lengthsOutside(int spool) {
        int[] lengths = {100, 101, 256, 999, MOST};
        for (int length : lengths) {
            refused("wind(" + spool + ", " + length + ")", OUTSIDE, x -> x.wind(spool, length));
        }
        refused("wind(" + spool + ", 0)", OUTSIDE, x -> x.wind(spool, 0));
        refused("pull(" + spool + ", 0)", OUTSIDE, x -> x.pull(spool, 0));
        refused("pull(" + spool + ", 1000)", OUTSIDE, x -> x.pull(spool, 1000));
        refused("pull(" + spool + ", most)", OUTSIDE, x -> x.pull(spool, MOST));
        refused("measure(" + spool + ", 4)", OUTSIDE, x -> x.measure(spool, 4));
        refused("rewind(" + spool + ", " + spool + "): the same one twice", UNKNOWN, x -> x.rewind(spool, spool));
        for (int n : BELOW) {
            refused("wind(" + spool + ", " + n + ")", OUTSIDE, x -> x.wind(spool, n));
            refused("pull(" + spool + ", " + n + ")", OUTSIDE, x -> x.pull(spool, n));
        }
    }

    private void unknownSpool(int n) {
        refused("spool(" + n + ")", UNKNOWN, x -> x.spool(n));
        refused("wind(" + n + ", 1)", UNKNOWN, x -> x.wind(n, 1));
        refused("wind(" + n + ", 100)", UNKNOWN, x -> x.wind(n, 100));
        refused("pull(" + n + ", 1)", UNKNOWN, x -> x.pull(n, 1));
        refused("pull(" + n + ", 0)", UNKNOWN, x -> x.pull(n, 0));
        refused("knot(" + n + ")", UNKNOWN, x -> x.knot(n));
        refused("measure(" + n + ", 0)", UNKNOWN, x -> x.measure(n, 0));
        refused("rewind(" + n + ", " + n + ")", UNKNOWN, x -> x.rewind(n, n));
        refused("drop(" + n + ")", UNKNOWN, x -> x.drop(n));
        for (int spool = 0; spool < 3; spool++) {
            int there = spool;
            refused("rewind(" + n + ", " + spool + ")", UNKNOWN, x -> x.rewind(n, there));
            refused("rewind(" + spool + ", " + n + ")", UNKNOWN, x -> x.rewind(there, n));
        }
    }

    private void missing(int spool) {
        refused("wind(" + spool + ", 1)", NULL, x -> x.wind(spool, 1));
        refused("wind(" + spool + ", 99)", NULL, x -> x.wind(spool, 99));
        refused("pull(" + spool + ", 1)", NULL, x -> x.pull(spool, 1));
        refused("pull(" + spool + ", 999): no such much, too", NULL, x -> x.pull(spool, 999));
        refused("knot(" + spool + "): none, too", NULL, x -> x.knot(spool));
        refused("drop(" + spool + ")", NULL, x -> x.drop(spool));
        for (int what = 0; what < 4; what++) {
            int asked = what;
            refused("measure(" + spool + ", " + what + ")", NULL, x -> x.measure(spool, asked));
        }
    }

    private void ofTheBusy() {
        refused("draft(): a fault", NOT, x -> x.draft());
        refused("back(1): not kept", NOT, x -> x.back(1));
        missing(1);
        refused("rewind(0, 1)", NULL, x -> x.rewind(0, 1));
        refused("rewind(1, 0)", NULL, x -> x.rewind(1, 0));
        refused("rewind(2, 1): an empty one", NULL, x -> x.rewind(2, 1));
        refused("rewind(1, 2): to an empty one", NULL, x -> x.rewind(1, 2));
        refused("knot(2)", EMPTY, x -> x.knot(2));
        refused("measure(2, 1)", EMPTY, x -> x.measure(2, 1));
        refused("measure(2, 2)", EMPTY, x -> x.measure(2, 2));
        refused("pull(2, 1)", SHORT, x -> x.pull(2, 1));
        refused("pull(2, 999)", SHORT, x -> x.pull(2, 999));
        refused("pull(0, 27)", SHORT, x -> x.pull(0, 27));
        refused("pull(0, 999)", SHORT, x -> x.pull(0, 999));
        refused("rewind(0, 0): the same one, that would be 10", UNKNOWN, x -> x.rewind(0, 0));
    }

    private void ofTheFull() {
        refused("write(0)", FULL, x -> x.write(0));
        refused("write(255)", FULL, x -> x.write(255));
        refused("write(256): OUTSIDE, too", OUTSIDE, x -> x.write(256));
        refused("write(-1): OUTSIDE, too", OUTSIDE, x -> x.write(-1));
        refused("draft()", NOT, x -> x.draft());
        refused("sample(): seven shafts", NOT, x -> x.sample());
        refused("back(0): not kept", NOT, x -> x.back(0));
        missing(2);
        refused("rewind(0, 2): eight to a missing one", NULL, x -> x.rewind(0, 2));
        refused("rewind(2, 0): a missing one to a full one", NULL, x -> x.rewind(2, 0));
        refused("rewind(0, 1)", ROOM, x -> x.rewind(0, 1));
        refused("rewind(1, 0)", ROOM, x -> x.rewind(1, 0));
        refused("rewind(0, 0)", UNKNOWN, x -> x.rewind(0, 0));
        refused("wind(0, 1)", ROOM, x -> x.wind(0, 1));
        refused("wind(0, 99)", ROOM, x -> x.wind(0, 99));
        refused("wind(0, 100): OUTSIDE, too", OUTSIDE, x -> x.wind(0, 100));
        refused("pull(0, 793)", SHORT, x -> x.pull(0, 793));
        refused("pull(0, 999)", SHORT, x -> x.pull(0, 999));
        refused("pull(0, 1000)", OUTSIDE, x -> x.pull(0, 1000));
        refused("pull(1, 2)", SHORT, x -> x.pull(1, 2));
        refused("knot(1): one alone", NOT, x -> x.knot(1));
    }

    private void ofTheNew() {
        refused("draft(): an empty text", NOT, x -> x.draft());
        refused("sample(): no rows", NOT, x -> x.sample());
        refused("undo()", NOT, x -> x.undo());
        refused("back(0)", NOT, x -> x.back(0));
        refused("back(1)", NOT, x -> x.back(1));
        refused("sampled(0, 0)", NONE, x -> x.sampled(0, 0));
        for (int spool = 0; spool < 3; spool++) {
            int one = spool;
            int other = (spool + 1) % 3;
            missing(spool);
            refused("rewind(" + one + ", " + other + ")", NULL, x -> x.rewind(one, other));
        }
    }
}
