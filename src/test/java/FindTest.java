/** Promises 20 to 23 and 31: what is found and counted. */
public final class FindTest {
    public static void main(String[] args) {
        least();
        same();
        sampled();
        tamed();
        changed();
        floats();
        repeats();
        alike();
        idle();
        others();
        smallestAndLargest();
        Check.finish();
    }

    private static void least() {
        WeaveDraft x = Check.told("row xxoox;row xxoox;row ooxxo;row xoxox");
        int[] due = {4, 5, 4, 3, 0};
        for (int what = 0; what < due.length; what++) {
            Check.due("least(" + what + ")", x.least(what), due[what]);
        }
        Check.due("least(5)", x.least(5), WeaveDraft.OUTSIDE);
        Check.due("least(-1)", x.least(-1), WeaveDraft.OUTSIDE);
        WeaveDraft none = new WeaveDraft();
        for (int what = 0; what < 5; what++) {
            Check.due("least(" + what + ") of no rows", none.least(what), 0);
        }
    }

    private static void same() {
        WeaveDraft x = Check.told("row xoxo;row oxox;row xoxo");
        Check.due("least(4): a pick is lacking", x.least(4), 0);
        Check.tell(x, "row oxox");
        Check.due("least(4)", x.least(4), 1);
        x.warp(0, 5);
        Check.due("least(4): colours do not matter", x.least(4), 1);
        x.draw(3, 0);
        Check.due("least(4)", x.least(4), 0);
        x.undo();
        x.tie(1, 0);
        Check.due("least(4)", x.least(4), 0);
        Check.tell(x, "draft 5 4 2 2");
        Check.due("least(4): an end too many", x.least(4), 0);
        Check.tell(x, "draft 4 5 2 2");
        Check.due("least(4): a pick too many", x.least(4), 0);
    }

    private static void sampled() {
        WeaveDraft x = Check.told("row xxo;row oox");
        Check.due("sampled(0, 0)", x.sampled(0, 0), 1);
        Check.due("sampled(0, 2)", x.sampled(0, 2), 0);
        Check.due("sampled(1, 0)", x.sampled(1, 0), 0);
        Check.due("sampled(1, 2)", x.sampled(1, 2), 1);
        Check.due("sampled(2, 0)", x.sampled(2, 0), WeaveDraft.NONE);
        Check.due("sampled(0, 3)", x.sampled(0, 3), WeaveDraft.NONE);
        Check.due("sampled(12, 12)", x.sampled(12, 12), WeaveDraft.NONE);
        Check.due("sampled(most, most)", x.sampled(Integer.MAX_VALUE, Integer.MAX_VALUE), WeaveDraft.NONE);
        Check.due("sampled(-1, 0)", x.sampled(-1, 0), WeaveDraft.OUTSIDE);
        Check.due("sampled(0, -1)", x.sampled(0, -1), WeaveDraft.OUTSIDE);
        Check.due("sampled(99, -1)", x.sampled(99, -1), WeaveDraft.OUTSIDE);
        Check.due("sampled(least, 99)", x.sampled(Integer.MIN_VALUE, 99), WeaveDraft.OUTSIDE);
    }

    private static void tamed() {
        String[] rows = {"xxxxxxxxxxxx", "xxxooooooxxx", "xoxoxoxoxoxo", "xxooxxooxxoo", "oooox", "x"};
        int[][] due = {
            {6, 4, 3, 2, 2, 1, 1, 1, 1, 1, 1, 0},
            {6, 4, 1, 1, 1, 0, 0, 0, 0, 0, 0, 0},
            {0, 0, 0, 0, 0, 0, 0, 0, 0, 0, 0, 0},
            {6, 0, 0, 0, 0, 0, 0, 0, 0, 0, 0, 0},
            {2, 1, 1, 0, 0, 0, 0, 0, 0, 0, 0, 0},
            {0, 0, 0, 0, 0, 0, 0, 0, 0, 0, 0, 0},
        };
        for (int i = 0; i < rows.length; i++) {
            WeaveDraft x = Check.told("row " + rows[i]);
            x.sample();
            for (int k = 1; k <= 12; k++) {
                Check.due("tamed(0, " + k + ") of " + rows[i], x.tamed(0, k), due[i][k - 1]);
            }
            Check.clothIs("only foretold", x, rows[i]);
        }
        WeaveDraft x = new WeaveDraft();
        Check.due("tamed(3, 0)", x.tamed(3, 0), WeaveDraft.OUTSIDE);
        Check.due("tamed(3, 13)", x.tamed(3, 13), WeaveDraft.OUTSIDE);
        Check.due("tamed(4, 0)", x.tamed(4, 0), WeaveDraft.UNKNOWN);
        Check.due("tamed(-1, 13)", x.tamed(-1, 13), WeaveDraft.UNKNOWN);
    }

    private static void changed() {
        WeaveDraft x = Check.told("draft 6 2 2 2");
        Check.clothIs("ahead", x, "xoxoxo oxoxox");
        String was = Check.all(x);
        Check.due("changed(0, 1)", x.changed(0, 1), 2);
        Check.due("changed(2, 3)", x.changed(2, 3), 2);
        Check.due("changed(0, 3)", x.changed(0, 3), 3);
        Check.due("changed(3, 0)", x.changed(3, 0), 3);
        Check.due("changed(0, 2): on the same shaft", x.changed(0, 2), 1);
        Check.due("changed(0, 0)", x.changed(0, 0), WeaveDraft.UNKNOWN);
        Check.due("changed(0, 6)", x.changed(0, 6), WeaveDraft.UNKNOWN);
        Check.due("changed(6, 0)", x.changed(6, 0), WeaveDraft.UNKNOWN);
        Check.due("changed(-1, 0)", x.changed(-1, 0), WeaveDraft.UNKNOWN);
        Check.due("changed(0, -1)", x.changed(0, -1), WeaveDraft.UNKNOWN);
        Check.holds("only foretold", was.equals(Check.all(x)));
        // a run that is not up is a float as well
        WeaveDraft under = Check.told("draft 5 1 2 1;draw 1 0;draw 2 1;draw 3 1;draw 4 0");
        Check.clothIs("ahead", under, "xxoox");
        Check.due("changed(1, 4)", under.changed(1, 4), 2);
        Check.due("changed(1, 3)", under.changed(1, 3), 2);
        Check.due("changed(3, 4)", under.changed(3, 4), 2);
        WeaveDraft rings = Check.told("draft 5 1 2 1;draw 0 1;draw 2 1;draw 3 0;draw 4 1");
        Check.clothIs("ahead", rings, "oooxo");
        Check.due("changed(3, 4)", rings.changed(3, 4), 4);
    }

    private static void floats() {
        WeaveDraft x = Check.told("row xxo;row xoo;row xox;row oox");
        x.sample();
        Check.due("count(4)", x.count(4), 3);
        Check.due("count(5)", x.count(5), 2);
        Check.due("count(12)", x.count(12), 6);
        Check.tell(x, "clear;row oooox;row xooox");
        x.sample();
        Check.due("count(4)", x.count(4), 2);
        Check.due("count(5)", x.count(5), 4);
        Check.due("count(12)", x.count(12), 3);
    }

    private static void repeats() {
        WeaveDraft x = Check.told("row xxoxx;row ooxoo;row xxoxx;row ooxoo;row xxoxx");
        x.sample();
        Check.due("count(6)", x.count(6), 3);
        Check.due("count(7)", x.count(7), 2);
        Check.tell(x, "clear;row xxxx;row xxxx");
        x.sample();
        Check.due("count(6)", x.count(6), 1);
        Check.due("count(7)", x.count(7), 1);
        Check.tell(x, "clear;row xooo;row oooo;row oooo");
        x.sample();
        Check.due("count(6): no repeat, so all", x.count(6), 4);
        Check.due("count(7): no repeat, so all", x.count(7), 3);
        Check.tell(x, "draft 1 1 1 1");
        Check.due("count(6)", x.count(6), 1);
        Check.due("count(7)", x.count(7), 1);
        // not the treadles but what they lift tells
        Check.tell(x, "draft 4 4 2 4");
        Check.due("count(7)", x.count(7), 2);
    }

    private static void alike() {
        WeaveDraft x = Check.told("draft 4 4 6 1");
        Check.due("count(9): five shafts tied to none", x.count(9), 10);
        x.tie(0, 5);
        Check.due("count(9)", x.count(9), 7);
        x = Check.told("draft 4 4 2 4");
        Check.due("count(9)", x.count(9), 0);
        x = Check.told("draft 4 4 3 2;tie 1 2;tie 0 2");
        Check.due("count(9)", x.count(9), 0);
        x.tie(0, 1);
        Check.due("count(9)", x.count(9), 1);
        Check.tell(x, "draft 4 4 1 6");
        Check.due("count(9): one shaft alone", x.count(9), 0);
    }

    private static void idle() {
        WeaveDraft x = Check.told("draft 4 3 6 5");
        Check.due("count(10)", x.count(10), 0b110000);
        Check.due("count(11)", x.count(11), 0b11000);
        x.draw(0, 5);
        x.tread(2, 4);
        Check.due("count(10)", x.count(10), 0b010001);
        Check.due("count(11)", x.count(11), 0b01100);
    }

    private static void others() {
        WeaveDraft x = new WeaveDraft();
        Check.due("count(-1)", x.count(-1), WeaveDraft.OUTSIDE);
        Check.due("count(16)", x.count(16), WeaveDraft.OUTSIDE);
        Check.due("count(least)", x.count(Integer.MIN_VALUE), WeaveDraft.OUTSIDE);
        x.spool(0);
        x.spool(2);
        x.wind(0, 1);
        x.wind(2, 99);
        x.wind(2, 98);
        Check.due("count(13)", x.count(13), 3);
        x.drop(2);
        Check.due("count(13)", x.count(13), 1);
        x.write(32);
        Check.due("count(15)", x.count(15), 1);
        x.turn();
        Check.due("count(14)", x.count(14), 1);
    }

    private static void smallestAndLargest() {
        countsAre(Check.told("draft 12 12 6 6"), 12, 12, 6, 6, 5, 5, 6, 6, 36, 0, 0, 0, 24, 0, 0, 0);
        countsAre(Check.told("draft 12 12 1 1;tie 0 0"), 12, 12, 1, 1, 12, 12, 1, 1, 36, 0, 0, 0, 0, 0, 0, 0);
        countsAre(Check.told("draft 1 1 1 1"), 1, 1, 1, 1, 1, 1, 1, 1, 0, 0, 0, 0, 1, 0, 0, 0);
        countsAre(Check.told("draft 1 1 6 6"), 1, 1, 6, 6, 1, 1, 1, 1, 0, 0, 62, 62, 1, 0, 0, 0);
        WeaveDraft first = Check.told("row xxxx;row xoxo;row xxox");
        first.sample();
        // the first end, the first pick alone have the longest float; then the last ones
        countsAre(first, 4, 3, 3, 3, 3, 4, 4, 3, 4, 0, 0, 0, 9, 0, 1, 0);
        WeaveDraft last = Check.told("row xoxx;row oxox;row xxxx");
        last.sample();
        countsAre(last, 4, 3, 3, 3, 3, 4, 4, 3, 5, 0, 0, 0, 9, 0, 1, 0);
        String six = "row xxoooooooooo;row xxoooooooooo;row xxoooooooooo;row xxoooooooooo;row xxoooooooooo;row xxoooooooooo";
        WeaveDraft x = Check.told(six);
        Check.tell(x, six);
        int[] due = {12, 12, 2, 1, 0};
        for (int what = 0; what < 5; what++) {
            Check.due("least(" + what + ")", x.least(what), due[what]);
        }
        Check.due("sampled(11, 1)", x.sampled(11, 1), 1);
        Check.due("sampled(11, 11)", x.sampled(11, 11), 0);
        Check.due("sampled(12, 11)", x.sampled(12, 11), WeaveDraft.NONE);
        Check.due("sample()", x.sample(), 2);
        Check.due("least(4)", x.least(4), 1);
        countsAre(x, 12, 12, 2, 1, 12, 10, 12, 1, 36, 0, 0, 0, 24, 0, 1, 0);
    }

    private static void countsAre(WeaveDraft x, int... due) {
        for (int what = 0; what < 16; what++) {
            Check.due("count(" + what + ")", x.count(what), due[what]);
        }
    }
}
