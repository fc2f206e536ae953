import java.util.Random;

/** Runs of calls, the same ones each time, on the program and on the model: all answers must be the same. */
public final class ModelTest {
    private static final int RUNS = 2000, CALLS = 512;
    // the most calls of one step: a text of 210 letters, erased ahead, asked and done behind
    private static final int LONGEST_TEXT = 213, LONGEST_CALL = 3;
    private static final int[] WRONG = {-1, -2, 99, 1000, Integer.MIN_VALUE, Integer.MAX_VALUE};
    private static final String[] SIGNS = {" ", "  ", ";", ";;", "1", "0", "x", "o", "row", "draft", "A", ".", "\t", "clear", "07", "123"};

    private final Random random;
    private WeaveDraft x;
    private Model m;
    private final StringBuilder told = new StringBuilder();
    private int calls;

    private ModelTest(long seed) {
        random = new Random(seed);
        x = new WeaveDraft();
        m = new Model();
    }

    public static void main(String[] args) {
        for (int run = 0; run < RUNS; run++) {
            new ModelTest(run).run(run);
        }
        Check.finish();
    }

    private void run(int seed) {
        // a text takes the spools away, so some runs have none
        boolean withTexts = seed % 4 != 0;
        while (calls + LONGEST_CALL <= CALLS) {
            int kind = random.nextInt(20);
            if (kind == 0 && withTexts && calls + LONGEST_TEXT <= CALLS) {
                tellText();
            } else if (kind < 8) {
                callAny(random.nextInt(9) + 8);
            } else if (kind < 14) {
                callAny(random.nextInt(8) + 22);
            } else {
                callAny(random.nextInt(30));
            }
            told.append(' ');
        }
        Check.holds("run " + seed, true);
    }

    private void due(String call, int got, int want) {
        calls++;
        told.append(call).append('=').append(got).append(' ');
        if (got != want) {
            Check.due("run: " + told + "\n" + call, got, want);
            Check.finish();
        }
    }

    private int below(int bound) {
        return random.nextInt(12) == 0 ? WRONG[random.nextInt(WRONG.length)] : random.nextInt(bound + 1);
    }

    private int end() {
        return below(m.count(0));
    }

    private int pick() {
        return below(m.count(1));
    }

    private int shaft() {
        return below(m.count(2));
    }

    private int treadle() {
        return below(m.count(3));
    }

    private void tellText() {
        int a = random.nextInt(8);
        if (a != 0) {
            due("erase()", x.erase(), m.erase());
        }
        String text = aText();
        for (int i = 0; i < text.length(); i++) {
            due("write(" + (int) text.charAt(i) + ")", x.write(text.charAt(i)), m.write(text.charAt(i)));
        }
        due("fault()", x.fault(), m.fault());
        due("draft()", x.draft(), m.draft());
    }

    private String aText() {
        StringBuilder s = new StringBuilder();
        int ends = m.count(0), picks = m.count(1), shafts = m.count(2), treadles = m.count(3);
        int wide = m.least(1);
        int clauses = 1 + random.nextInt(random.nextInt(6) == 0 ? 26 : 9);
        for (int i = 0; i < clauses; i++) {
            s.append(i == 0 ? "" : random.nextInt(9) == 0 ? " ; " : ";");
            switch (random.nextInt(10)) {
                case 0:
                    ends = 1 + random.nextInt(12);
                    picks = 1 + random.nextInt(12);
                    shafts = 1 + random.nextInt(6);
                    treadles = 1 + random.nextInt(6);
                    s.append("draft ").append(ends).append(' ').append(picks).append(' ').append(shafts).append(' ').append(treadles);
                    break;
                case 1: two(s, "draw", ends, shafts); break;
                case 2: two(s, "tie", treadles, shafts); break;
                case 3: two(s, "tread", picks, treadles); break;
                case 4: two(s, "warp", ends, 10); break;
                case 5: two(s, "weft", picks, 10); break;
                case 6:
                    s.append("clear");
                    wide = 0;
                    break;
                default:
                    wide = wide == 0 ? 1 + random.nextInt(12) : wide;
                    s.append("row ").append(aRow(wide));
                    break;
            }
        }
        if (random.nextInt(3) == 0) {
            spoil(s);
        }
        return s.length() > 210 ? s.substring(0, 210) : s.toString();
    }

    private void two(StringBuilder s, String word, int one, int other) {
        int slip = random.nextInt(40) == 0 ? 1 : 0;
        s.append(word).append(random.nextBoolean() ? " " : "").append(random.nextInt(one + slip));
        s.append(' ').append(random.nextInt(other + slip));
    }

    private String aRow(int wide) {
        int like = random.nextInt(4);
        StringBuilder w = new StringBuilder();
        for (int i = 0; i < wide; i++) {
            boolean cross = like == 0 ? random.nextBoolean() : i / like % 2 == 0;
            w.append(cross ? 'x' : 'o');
        }
        return w.toString();
    }

    private void spoil(StringBuilder s) {
        int at = random.nextInt(s.length());
        switch (random.nextInt(3)) {
            case 0: s.deleteCharAt(at); break;
            case 1: s.insert(at, SIGNS[random.nextInt(SIGNS.length)]); break;
            default: s.setCharAt(at, (char) random.nextInt(256)); break;
        }
    }

    private void callAny(int method) {
        int a, b, c;
        switch (method) {
            case 0: a = below(256); due("write(" + a + ")", x.write(a), m.write(a)); break;
            case 1: due("erase()", x.erase(), m.erase()); break;
            case 2: due("fault()", x.fault(), m.fault()); break;
            case 3: due("draft()", x.draft(), m.draft()); break;
            case 4: a = end(); b = below(5); due("end(" + a + "," + b + ")", x.end(a, b), m.end(a, b)); break;
            case 5: a = pick(); b = below(7); due("pick(" + a + "," + b + ")", x.pick(a, b), m.pick(a, b)); break;
            case 6: a = treadle(); due("treadle(" + a + ")", x.treadle(a), m.treadle(a)); break;
            case 7: a = pick(); b = end(); c = below(2); due("cross(" + a + "," + b + "," + c + ")", x.cross(a, b, c), m.cross(a, b, c)); break;
            case 8: a = end(); b = shaft(); due("draw(" + a + "," + b + ")", x.draw(a, b), m.draw(a, b)); break;
            case 9: a = treadle(); b = shaft(); due("tie(" + a + "," + b + ")", x.tie(a, b), m.tie(a, b)); break;
            case 10: a = pick(); b = treadle(); due("tread(" + a + "," + b + ")", x.tread(a, b), m.tread(a, b)); break;
            case 11: a = end(); b = below(10); due("warp(" + a + "," + b + ")", x.warp(a, b), m.warp(a, b)); break;
            case 12: a = pick(); b = below(10); due("weft(" + a + "," + b + ")", x.weft(a, b), m.weft(a, b)); break;
            case 13: due("sample()", x.sample(), m.sample()); break;
            case 14: due("turn()", x.turn(), m.turn()); break;
            case 15: due("undo()", x.undo(), m.undo()); break;
            case 16: a = below(2); due("keep(" + a + ")", x.keep(a), m.keep(a)); break;
            case 17: a = below(2); due("back(" + a + ")", x.back(a), m.back(a)); break;
            case 18: a = below(5); due("least(" + a + ")", x.least(a), m.least(a)); break;
            case 19: a = below(m.least(0)); b = below(m.least(1)); due("sampled(" + a + "," + b + ")", x.sampled(a, b), m.sampled(a, b)); break;
            case 20: a = pick(); b = below(13); due("tamed(" + a + "," + b + ")", x.tamed(a, b), m.tamed(a, b)); break;
            case 21: a = end(); b = end(); due("changed(" + a + "," + b + ")", x.changed(a, b), m.changed(a, b)); break;
            case 22: a = below(16); due("count(" + a + ")", x.count(a), m.count(a)); break;
            default: callSpool(method); break;
        }
    }

    private void callSpool(int method) {
        int a = below(3), b;
        switch (method) {
            case 23: a = random.nextInt(3) == 0 ? a : 3; due("spool(" + a + ")", x.spool(a), m.spool(a)); break;
            case 24:
                for (int i = 0; i < 3; i++) {
                    b = below(100);
                    due("wind(" + a + "," + b + ")", x.wind(a, b), m.wind(a, b));
                }
                break;
            case 25: b = below(120); due("pull(" + a + "," + b + ")", x.pull(a, b), m.pull(a, b)); break;
            case 26: due("knot(" + a + ")", x.knot(a), m.knot(a)); break;
            case 27: b = below(4); due("measure(" + a + "," + b + ")", x.measure(a, b), m.measure(a, b)); break;
            case 28: b = below(3); due("rewind(" + a + "," + b + ")", x.rewind(a, b), m.rewind(a, b)); break;
            default: a = random.nextInt(4) == 0 ? a : 3; due("drop(" + a + ")", x.drop(a), m.drop(a)); break;
        }
    }
}
