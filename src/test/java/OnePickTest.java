import java.util.Arrays;

/**
 * Every pick that there can be, of 1 to 12 ends: its floats, repeats, stitches and how it is tamed, each
 * found by trying; and, turned, the same of an end.
 */
public final class OnePickTest {
    public static void main(String[] args) {
        for (int ends = 1; ends <= 12; ends++) {
            int[][] fewest = fewestTurned(ends);
            for (int up = 0; up < 1 << ends; up++) {
                onePick(ends, up, fewest);
            }
        }
        Check.finish();
    }

    private static boolean isUp(int up, int end) {
        return (up >> end & 1) == 1;
    }

    private static String row(int ends, int up) {
        StringBuilder row = new StringBuilder();
        for (int i = 0; i < ends; i++) {
            row.append(isUp(up, i) ? 'x' : 'o');
        }
        return row.toString();
    }

    /** The longest run, as a piece of the row that can be found in it. */
    private static int longest(String row, String sign) {
        int length = 0;
        while (row.contains(sign.repeat(length + 1))) {
            length++;
        }
        return length;
    }

    private static int longest(String row) {
        return Math.max(longest(row, "x"), longest(row, "o"));
    }

    private static int repeat(String row) {
        int r = 1;
        while (!row.startsWith(row.substring(r))) {
            r++;
        }
        return r;
    }

    /** At k and a pick: the least number of crossings turned about, found step by step from the tame picks. */
    private static int[][] fewestTurned(int ends) {
        int[][] fewest = new int[13][1 << ends];
        for (int k = 1; k <= 12; k++) {
            Arrays.fill(fewest[k], 99);
            int[] line = new int[1 << ends];
            int last = 0;
            for (int up = 0; up < 1 << ends; up++) {
                if (longest(row(ends, up)) <= k) {
                    fewest[k][up] = 0;
                    line[last++] = up;
                }
            }
            for (int first = 0; first < last; first++) {
                for (int i = 0; i < ends; i++) {
                    int near = line[first] ^ 1 << i;
                    if (fewest[k][near] == 99) {
                        fewest[k][near] = fewest[k][line[first]] + 1;
                        line[last++] = near;
                    }
                }
            }
        }
        return fewest;
    }

    private static void onePick(int ends, int up, int[][] fewest) {
        String row = row(ends, up);
        WeaveDraft x = new WeaveDraft();
        for (char letter : ("row " + row + ";row " + row).toCharArray()) {
            x.write(letter);
        }
        String of = " of " + row;
        boolean plain = row.indexOf('x') < 0 || row.indexOf('o') < 0;
        Check.due("draft()" + of, x.draft(), 2);
        Check.due("sample()" + of, x.sample(), plain ? 1 : 2);
        Check.due("count(3)" + of, x.count(3), 1);
        Check.due("pick(1, 2)" + of, x.pick(1, 2), longest(row, "o"));
        Check.due("pick(1, 3)" + of, x.pick(1, 3), longest(row, "x"));
        Check.due("pick(1, 4)" + of, x.pick(1, 4), up);
        stitches(x, row);
        for (int k = 1; k <= 12; k++) {
            Check.due("tamed(1, " + k + ")" + of, x.tamed(1, k), fewest[k][up]);
        }
        Check.due("count(4)" + of, x.count(4), 2);
        Check.due("count(5)" + of, x.count(5), longest(row));
        Check.due("count(6)" + of, x.count(6), repeat(row));
        Check.due("count(7)" + of, x.count(7), 1);
        Check.due("count(12)" + of, x.count(12), 2 * Integer.bitCount(up));
        Check.due("least(4)" + of, x.least(4), 1);
        x.turn();
        Check.due("end(1, 2)" + of, x.end(1, 2), longest(row, "x"));
        Check.due("end(1, 3)" + of, x.end(1, 3), longest(row, "o"));
        Check.due("end(1, 4)" + of, x.end(1, 4), up);
        Check.due("count(4) turned" + of, x.count(4), longest(row));
        Check.due("count(5) turned" + of, x.count(5), 2);
        Check.due("count(6) turned" + of, x.count(6), 1);
        Check.due("count(7) turned" + of, x.count(7), repeat(row));
        Check.due("least(4) turned" + of, x.least(4), ends == 2 && (up == 0 || up == 3) ? 1 : 0);
    }

    /** Pick 0 is of the upper layer, pick 1 of the lower one. */
    private static void stitches(WeaveDraft x, String row) {
        int upper = 0;
        int lower = 0;
        for (int i = 0; i < row.length(); i++) {
            upper += i % 2 == 1 && row.charAt(i) == 'x' ? 1 : 0;
            lower += i % 2 == 0 && row.charAt(i) == 'o' ? 1 : 0;
        }
        Check.due("pick(0, 6) of " + row, x.pick(0, 6), upper);
        Check.due("pick(1, 6) of " + row, x.pick(1, 6), lower);
        Check.due("pick(0, 5) of " + row, x.pick(0, 5), upper > 0 ? 1 : 0);
        Check.due("pick(1, 5) of " + row, x.pick(1, 5), lower > 0 ? 1 : 0);
        Check.due("count(8) of " + row, x.count(8), upper + lower);
    }
}
