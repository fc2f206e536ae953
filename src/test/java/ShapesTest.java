/** Cloths and samples of every shape, wide or long: what is found is found to the last end, pick, column, row, and not beyond. */
public final class ShapesTest {
    private static final int MOST = 12;

    public static void main(String[] args) {
        for (int ends = 1; ends <= MOST; ends++) {
            for (int picks = 1; picks <= MOST; picks++) {
                longestOfTheLast(ends, picks);
                longestIsNotBeyond(ends, picks);
                unlikeInTheLast(ends, picks);
                repeatsToTheLast(ends, picks);
                rowsThatWere(ends, picks);
                idleToTheLast(ends, picks);
                layersToTheLast(ends, picks);
            }
        }
        for (int columns = 1; columns <= MOST; columns++) {
            for (int rows = 1; rows <= MOST; rows++) {
                sameOfRings(columns, rows);
            }
        }
        Check.finish();
    }

    private static String of(int ends, int picks) {
        return " of " + ends + " ends, " + picks + " picks";
    }

    /** 'the longest FLOAT of all ENDS', 'of all PICKS', 'the longest FLOAT of all PICKS (OVER or UNDER) then'. */
    private static void longestOfTheLast(int ends, int picks) {
        for (int lifted = 0; lifted < 2; lifted++) {
            // picks are xoxo .. and oxox .. in turn, but for the last one: all up, or none
            WeaveDraft x = Check.told("draft " + ends + " " + picks + " 2 3;tie 2 0" + (lifted == 1 ? ";tie 2 0;tie 2 1" : ""));
            for (int j = 0; j < picks; j++) {
                x.tread(j, j == picks - 1 ? 2 : j % 2);
            }
            Check.due("count(5)" + of(ends, picks), x.count(5), ends);
            Check.due("count(4)" + of(ends, picks), x.count(4), picks == 1 ? 1 : ends == 1 ? longestOfOne(picks, lifted) : 2);
            if (ends > 2) {
                Check.due("changed(0, 2)" + of(ends, picks), x.changed(0, 2), ends);
            }
            x.turn();
            Check.due("count(4), turned," + of(ends, picks), x.count(4), ends);
        }
    }

    /** The end is up at even picks, and at the last as told: so its last two are the same, or no two. */
    private static int longestOfOne(int picks, int lastUp) {
        boolean upAhead = picks % 2 == 0;
        return upAhead == (lastUp == 1) ? 2 : 1;
    }

    /** A treadle that is not trodden, a shaft on which there is no end, do not float. */
    private static void longestIsNotBeyond(int ends, int picks) {
        WeaveDraft x = Check.told("draft " + ends + " " + picks + " 3 3;tie 2 0;tie 2 1");
        for (int j = 0; j < picks; j++) {
            x.tread(j, j % 2);
        }
        for (int i = 0; i < ends; i++) {
            x.draw(i, i % 2);
        }
        Check.due("count(5)" + of(ends, picks), x.count(5), 1);
        Check.due("count(4)" + of(ends, picks), x.count(4), 1);
        if (ends > 2) {
            Check.due("changed(0, 2)" + of(ends, picks), x.changed(0, 2), 1);
        }
        if (ends > 3) {
            Check.due("changed(0, 3)" + of(ends, picks), x.changed(0, 3), ends == 4 ? 2 : 3);
        }
    }

    /** Rows of rings, but for a cross at the very last place. */
    private static WeaveDraft lastCrossed(int columns, int rows) {
        WeaveDraft x = new WeaveDraft();
        for (int j = 0; j < rows; j++) {
            Check.tell(x, "row " + "o".repeat(columns - 1) + (j == rows - 1 ? "x" : "o"));
        }
        return x;
    }

    /** 'how many unlike columns THE SAMPLE has (SHAFTS), how many unlike rows (TREADLES)'. */
    private static void unlikeInTheLast(int columns, int rows) {
        WeaveDraft x = lastCrossed(columns, rows);
        int shafts = columns == 1 ? 1 : 2;
        int treadles = rows == 1 ? 1 : 2;
        Check.due("least(2)" + of(columns, rows), x.least(2), shafts);
        Check.due("least(3)" + of(columns, rows), x.least(3), treadles);
        Check.due("sample()" + of(columns, rows), x.sample(), shafts);
        Check.due("count(3)" + of(columns, rows), x.count(3), treadles);
        Check.due("the last end's shaft" + of(columns, rows), x.end(columns - 1, 0), shafts - 1);
        Check.due("the last pick's treadle" + of(columns, rows), x.pick(rows - 1, 0), treadles - 1);
        Check.due("its shafts" + of(columns, rows), x.treadle(treadles - 1), 1 << shafts - 1);
        Check.due("count(12)" + of(columns, rows), x.count(12), 1);
        Check.due("least(4)" + of(columns, rows), x.least(4), 1);
    }

    /** 'the least number r (1 to e) so that each END is UP just as the one r further on': the last end, the last pick differ. */
    private static void repeatsToTheLast(int ends, int picks) {
        WeaveDraft x = lastCrossed(ends, picks);
        x.sample();
        Check.due("count(6)" + of(ends, picks), x.count(6), ends);
        Check.due("count(7)" + of(ends, picks), x.count(7), picks);
        x.tie(x.count(3) - 1, x.count(2) - 1);
        Check.due("count(6), all rings," + of(ends, picks), x.count(6), 1);
        Check.due("count(7), all rings," + of(ends, picks), x.count(7), 1);
    }

    /** 'clear: THE SAMPLE has no rows': rows that were there, longer or more of them, are not found any more. */
    private static void rowsThatWere(int columns, int rows) {
        WeaveDraft x = new WeaveDraft();
        Check.tell(x, "row xoxoxoxoxoxo;row ooxxooxxooxx;row ooooxxxxoooo;row ooooooooxxxx");
        Check.tell(x, "row xoxoxoxoxoxo;row ooxxooxxooxx;row ooooxxxxoooo;row ooooooooxxxx");
        Check.due("least(2)", x.least(2), 12);
        Check.due("least(3)", x.least(3), 4);
        String row = "row " + "x".repeat(columns);
        Check.tell(x, rows == 1 ? "clear;" + row : "clear;" + row + ";" + row);
        Check.due("least(2)" + of(columns, rows), x.least(2), 1);
        Check.due("least(3)" + of(columns, rows), x.least(3), 1);
        Check.due("sample()" + of(columns, rows), x.sample(), 1);
        Check.due("count(12)" + of(columns, rows), x.count(12), columns * Math.min(rows, 2));
        Check.due("least(4)" + of(columns, rows), x.least(4), 1);
    }

    /** 'THE CLOTH is THE SAMPLE, crossing by crossing': one that has more ends, more picks is another, be they never up. */
    private static void sameOfRings(int columns, int rows) {
        for (int ends = 1; ends <= MOST; ends++) {
            sameOfSize(columns, rows, ends, rows);
        }
        for (int picks = 1; picks <= MOST; picks++) {
            sameOfSize(columns, rows, columns, picks);
        }
        sameOfSize(columns, rows, rows, columns);
    }

    private static void sameOfSize(int columns, int rows, int ends, int picks) {
        WeaveDraft x = new WeaveDraft();
        for (int j = 0; j < rows; j++) {
            Check.tell(x, "row " + (j == 0 ? "x" : "o") + "o".repeat(columns - 1));
        }
        // end 0 alone is on shaft 0, that goes up at pick 0 alone; shaft 1 never does
        Check.tell(x, "draft " + ends + " " + picks + " 2 2;tie 1 1");
        for (int n = 1; n < MOST; n++) {
            x.draw(n, 1);
            x.tread(n, 1);
        }
        Check.due("pick(0, 4)", x.pick(0, 4), 1);
        Check.due("count(12)", x.count(12), 1);
        boolean same = ends == columns && picks == rows;
        Check.due("least(4) of a sample" + of(columns, rows) + " and a cloth" + of(ends, picks), x.least(4), same ? 1 : 0);
    }

    /** 'SHAFTS on which there is no END (bits); TREADLES that are never TRODDEN': the last end, the last pick are seen. */
    private static void idleToTheLast(int ends, int picks) {
        WeaveDraft x = Check.told("draft " + ends + " " + picks + " 6 5");
        for (int i = 0; i < ends; i++) {
            x.draw(i, i == ends - 1 ? 5 : 0);
        }
        for (int j = 0; j < picks; j++) {
            x.tread(j, j == picks - 1 ? 4 : 0);
        }
        Check.due("count(10)" + of(ends, picks), x.count(10), ends == 1 ? 0b011111 : 0b011110);
        Check.due("count(11)" + of(ends, picks), x.count(11), picks == 1 ? 0b01111 : 0b01110);
    }

    /** 'PICKS of the upper one at which some END of the lower one is UP; of the lower one at which some END of the upper one is not'. */
    private static void layersToTheLast(int ends, int picks) {
        WeaveDraft x = Check.told("draft " + ends + " " + picks + " 1 1");
        int upperPicks = (picks + 1) / 2;
        int lowerEnds = ends / 2;
        Check.due("count(8), all up," + of(ends, picks), x.count(8), upperPicks * lowerEnds);
        Check.due("count(12), all up," + of(ends, picks), x.count(12), ends * picks);
        x.tie(0, 0);
        Check.due("count(8), none up," + of(ends, picks), x.count(8), (picks - upperPicks) * (ends - lowerEnds));
        Check.due("count(12), none up," + of(ends, picks), x.count(12), 0);
    }
}
