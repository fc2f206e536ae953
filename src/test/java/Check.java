/** What the tests share: they count wrong answers, and end with exit code 1 if there was one. */
final class Check {
    private static int wrong = 0;
    private static int seen = 0;

    private Check() {
    }

    static void due(String call, long got, long want) {
        seen++;
        if (got != want) {
            wrong++;
            System.out.println(call + " answered " + got + ", due is " + want);
        }
    }

    static void holds(String what, boolean really) {
        due(what, really ? 1 : 0, 1);
    }

    static void finish() {
        System.out.println(seen + " answers, " + wrong + " wrong");
        if (wrong != 0 || seen == 0) {
            System.exit(1);
        }
    }

    /** Puts a text in the place of the one that is there. */
    static void write(WeaveDraft x, String text) {
        x.erase();
        for (int i = 0; i < text.length(); i++) {
            due("write " + (i + 1) + " of '" + text + "'", x.write(text.charAt(i)), i + 1);
        }
    }

    /** A new object whose text has been done: it must be without a fault. */
    static WeaveDraft told(String text) {
        WeaveDraft x = new WeaveDraft();
        tell(x, text);
        return x;
    }

    static void tell(WeaveDraft x, String text) {
        write(x, text);
        due("draft() of '" + text + "'", x.draft(), text.split(";", -1).length);
    }

    static void faultAt(WeaveDraft x, String text, int place) {
        write(x, text);
        due("fault() of '" + text + "'", x.fault(), place);
    }

    /** The ends that are up, pick by pick, as rows of x and o. */
    static String cloth(WeaveDraft x) {
        StringBuilder rows = new StringBuilder();
        int ends = x.count(0);
        int picks = x.count(1);
        for (int j = 0; j < picks; j++) {
            rows.append(j == 0 ? "" : " ");
            for (int i = 0; i < ends; i++) {
                rows.append(x.cross(j, i, 0) == 1 ? 'x' : 'o');
            }
        }
        return rows.toString();
    }

    static void clothIs(String when, WeaveDraft x, String want) {
        String got = cloth(x);
        holds(when + ": cloth " + got + ", due is " + want, got.equals(want));
    }

    /**
     * All that an object tells of its state without changing it, but fault(): at most 231 calls,
     * so that it can be asked twice of an object that answers 512.
     */
    static String all(WeaveDraft x) {
        StringBuilder all = new StringBuilder(draftOnly(x));
        for (int what = 4; what < 16; what++) {
            all.append(x.count(what)).append(',');
        }
        int rows = x.least(0);
        int columns = x.least(1);
        all.append(rows).append('x').append(columns).append(':');
        for (int row = 0; row < rows; row++) {
            for (int column = 0; column < columns; column++) {
                all.append(x.sampled(row, column));
            }
        }
        for (int what = 2; what < 5; what++) {
            all.append(',').append(x.least(what));
        }
        for (int spool = 0; spool < 3; spool++) {
            for (int what = 0; what < 4; what++) {
                all.append(',').append(x.measure(spool, what));
            }
        }
        return all.toString();
    }

    /** The draft, by its numbers: without what tells of undoing, of the text, the sample and the spools. */
    static String draftOnly(WeaveDraft x) {
        StringBuilder all = new StringBuilder();
        int[] sizes = new int[4];
        for (int what = 0; what < 4; what++) {
            sizes[what] = x.count(what);
            all.append(sizes[what]).append(',');
        }
        for (int i = 0; i < sizes[0]; i++) {
            all.append(x.end(i, 0)).append('c').append(x.end(i, 1)).append(',');
        }
        for (int j = 0; j < sizes[1]; j++) {
            all.append(x.pick(j, 0)).append('c').append(x.pick(j, 1)).append(',');
        }
        for (int k = 0; k < sizes[3]; k++) {
            all.append(x.treadle(k)).append(';');
        }
        return all.toString();
    }
}
