/** What the tests share: they count wrong answers, and end with exit code 1 if there was one. */
final class Check {
    private static int wrong = 0;
    private static int seen = 0;

    private Check() {
    }

    static void due(String call, long got, long want) {
        seen++;
        if (got != want) {
            wrong++;
            System.out.println(call + " answered " + got + ", due is " + want);
        }
    }

    static void holds(String what, boolean really) {
        due(what, really ? 1 : 0, 1);
    }

    static void finish() {
        System.out.println(seen + " answers, " + wrong + " wrong");
        if (wrong != 0 || seen == 0) {
            System.exit(1);
        }
    }

    /** Puts a text in the place of the one that is there. */
    static void write(WeaveDraft x, String text) {
        x.erase();
        for (int i = 0; i < text.length(); i++) {
            due("write " + (i + 1) + " of '" + text + "'", x.write(text.charAt(i)), i + 1);
        }
    }

    /** A new object whose text has been done: it must be without a fault. */
    static WeaveDraft told(String text) {
        WeaveDraft x = new WeaveDraft();
        tell(x, text);
        return x;
    }

    static void tell(WeaveDraft x, String text) {
        write(x, text);
        due("draft() of '" + text + "'", x.draft(), text.split(";", -1).length);
    }

    static void faultAt(WeaveDraft x, String text, int place) {
        write(x, text);
        due("fault() of '" + text + "'", x.fault(), place);
    }

    /** The ends that are up, pick by pick, as rows of x and o. */
    static String cloth(WeaveDraft x) {
        StringBuilder rows = new StringBuilder();
        for (int j = 0; j < x.count(1); j++) {
            rows.append(j == 0 ? "" : " ");
            for (int i = 0; i < x.count(0); i++) {
                rows.append(x.cross(j, i, 0) == 1 ? 'x' : 'o');
            }
        }
        return rows.toString();
    }

    static void clothIs(String when, WeaveDraft x, String want) {
        String got = cloth(x);
        holds(when + ": cloth " + got + ", due is " + want, got.equals(want));
    }

    /** All that can be asked of an object without changing it, but fault(). */
    static String all(WeaveDraft x) {
        StringBuilder all = new StringBuilder();
        for (int what = 0; what < 16; what++) {
            all.append(x.count(what)).append(',');
        }
        for (int i = 0; i < 12; i++) {
            for (int what = 0; what < 7; what++) {
                all.append(x.end(i, what)).append(',').append(x.pick(i, what)).append(',');
            }
            for (int j = 0; j < 12; j++) {
                all.append(x.cross(i, j, 0)).append(x.cross(i, j, 1)).append(x.sampled(i, j)).append(',');
            }
            all.append(x.treadle(i)).append(',').append(x.least(i)).append(',');
        }
        for (int spool = 0; spool < 3; spool++) {
            for (int what = 0; what < 4; what++) {
                all.append(x.measure(spool, what)).append(',');
            }
        }
        return all.toString();
    }

    /** Like all(), without what tells of undoing and of the text. */
    static String draftOnly(WeaveDraft x) {
        StringBuilder all = new StringBuilder();
        for (int what = 0; what < 4; what++) {
            all.append(x.count(what)).append(',');
        }
        for (int i = 0; i < 12; i++) {
            all.append(x.end(i, 0)).append(',').append(x.end(i, 1)).append(',');
            all.append(x.pick(i, 0)).append(',').append(x.pick(i, 1)).append(',').append(x.treadle(i)).append(';');
        }
        return all.toString();
    }
}
