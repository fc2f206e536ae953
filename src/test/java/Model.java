import java.util.ArrayDeque;
import java.util.ArrayList;
import java.util.Arrays;
import java.util.Deque;
import java.util.List;
import java.util.Set;
import java.util.TreeSet;
import java.util.regex.Matcher;
import java.util.regex.Pattern;

/**
 * The document once more, written as plainly as the Java library lets it and in another way than
 * the program (sets, lists, all drafts tried), for ModelTest to compare the two.
 */
final class Model {
    private static final int NONE = -1, UNKNOWN = -2, OUTSIDE = -3, NOT = -4, FULL = -5;
    private static final int NULL = -11, EMPTY = -12, ROOM = -13, SHORT = -14;
    private static final Pattern TOKEN = Pattern.compile("[a-z]+|[0-9]+|[^ ]", Pattern.DOTALL);

    private static final class Weave {
        final List<Integer> shaftOf = new ArrayList<>();
        final List<Set<Integer>> ties = new ArrayList<>();
        final List<Integer> treadleOf = new ArrayList<>();
        final List<Integer> warp = new ArrayList<>();
        final List<Integer> weft = new ArrayList<>();
        int shafts;

        Weave(int e, int p, int s, int t) {
            shafts = s;
            for (int i = 0; i < e; i++) {
                shaftOf.add(i % s);
                warp.add(0);
            }
            for (int j = 0; j < p; j++) {
                treadleOf.add(j % t);
                weft.add(1);
            }
            for (int k = 0; k < t; k++) {
                ties.add(new TreeSet<>(List.of(k % s)));
            }
        }

        Weave copy() {
            Weave c = new Weave(1, 1, 1, 1);
            for (List<Integer> list : List.of(c.shaftOf, c.treadleOf, c.warp, c.weft)) {
                list.clear();
            }
            c.ties.clear();
            c.shafts = shafts;
            c.shaftOf.addAll(shaftOf);
            c.treadleOf.addAll(treadleOf);
            c.warp.addAll(warp);
            c.weft.addAll(weft);
            for (Set<Integer> tie : ties) {
                c.ties.add(new TreeSet<>(tie));
            }
            return c;
        }

        int ends() {
            return shaftOf.size();
        }

        int picks() {
            return treadleOf.size();
        }

        void toggle(int treadle, int shaft) {
            if (!ties.get(treadle).remove(shaft)) {
                ties.get(treadle).add(shaft);
            }
        }

        boolean up(int pick, int end) {
            return ties.get(treadleOf.get(pick)).contains(shaftOf.get(end));
        }

        String column(int end) {
            StringBuilder s = new StringBuilder();
            for (int j = 0; j < picks(); j++) {
                s.append(up(j, end) ? 'x' : 'o');
            }
            return s.toString();
        }

        String row(int pick) {
            StringBuilder s = new StringBuilder();
            for (int i = 0; i < ends(); i++) {
                s.append(up(pick, i) ? 'x' : 'o');
            }
            return s.toString();
        }

        List<String> rows() {
            List<String> all = new ArrayList<>();
            for (int j = 0; j < picks(); j++) {
                all.add(row(j));
            }
            return all;
        }

        List<String> columns() {
            List<String> all = new ArrayList<>();
            for (int i = 0; i < ends(); i++) {
                all.add(column(i));
            }
            return all;
        }
    }

    private Weave now = new Weave(4, 4, 2, 2);
    private final Weave[] kept = new Weave[2];
    private final Deque<Weave> past = new ArrayDeque<>();
    private List<String> swatch = new ArrayList<>();
    private String text = "";
    private final List<Deque<Integer>> spools = new ArrayList<>(Arrays.asList(null, null, null));

    static int longest(String run, char letter) {
        int longest = 0;
        for (String part : run.split(letter == 'x' ? "o" : "x")) {
            longest = Math.max(longest, part.length());
        }
        return longest;
    }

    private static int either(String run) {
        return Math.max(longest(run, 'x'), longest(run, 'o'));
    }

    private static int eitherOfAll(List<String> runs) {
        return runs.stream().mapToInt(Model::either).max().orElse(0);
    }

    private static int bits(String run) {
        return Integer.parseInt(new StringBuilder(run.replace('x', '1').replace('o', '0')).reverse().toString(), 2);
    }

    private static int bits(Set<Integer> set) {
        return set.stream().mapToInt(n -> 1 << n).sum();
    }

    private static int repeat(List<String> runs) {
        for (int r = 1; r < runs.size(); r++) {
            if (runs.subList(r, runs.size()).equals(runs.subList(0, runs.size() - r))) {
                return r;
            }
        }
        return runs.size();
    }

    private static boolean in(int n, int size) {
        return n >= 0 && n < size;
    }

    // ---- the text: does it on copies, answers the place of the fault, -1 if all is done

    private final class Telling {
        Weave weave = now.copy();
        List<String> rows = new ArrayList<>(swatch);
        int clauses = 0;
        List<String> tokens = new ArrayList<>();
        List<Integer> places = new ArrayList<>();
        int at = 0;

        Telling() {
            Matcher m = TOKEN.matcher(text);
            while (m.find()) {
                tokens.add(m.group());
                places.add(m.start());
            }
            tokens.add("");
            places.add(text.length());
        }

        /** Whether the whole text can stand; at is then behind all, else at the fault. */
        boolean all() {
            while (true) {
                if (!clause()) {
                    return false;
                }
                clauses++;
                if (tokens.get(at).isEmpty()) {
                    return true;
                }
                if (!tokens.get(at).equals(";") || clauses == 24) {
                    return false;
                }
                at++;
            }
        }

        boolean clause() {
            String word = tokens.get(at);
            int e = weave.ends() - 1, p = weave.picks() - 1, s = weave.shafts - 1, t = weave.ties.size() - 1;
            int[] n;
            switch (word) {
                case "draft":
                    n = numbers(1, 12, 12, 6, 6);
                    if (n != null) {
                        weave = new Weave(n[0], n[1], n[2], n[3]);
                    }
                    return n != null;
                case "draw":
                    n = numbers(0, e, s);
                    return n != null && weave.shaftOf.set(n[0], n[1]) != null;
                case "tie":
                    n = numbers(0, t, s);
                    if (n != null) {
                        weave.toggle(n[0], n[1]);
                    }
                    return n != null;
                case "tread":
                    n = numbers(0, p, t);
                    return n != null && weave.treadleOf.set(n[0], n[1]) != null;
                case "warp":
                    n = numbers(0, e, 9);
                    return n != null && weave.warp.set(n[0], n[1]) != null;
                case "weft":
                    n = numbers(0, p, 9);
                    return n != null && weave.weft.set(n[0], n[1]) != null;
                case "clear":
                    at++;
                    rows.clear();
                    return true;
                case "row":
                    return rows.size() < 12 && row();
                default:
                    return false;
            }
        }

        boolean row() {
            String w = tokens.get(++at);
            if (!w.matches("[xo]{1,12}") || !rows.isEmpty() && rows.get(0).length() != w.length()) {
                return false;
            }
            at++;
            return rows.add(w);
        }

        int[] numbers(int least, int... most) {
            int[] n = new int[most.length];
            at++;
            for (int i = 0; i < most.length; i++) {
                if (!tokens.get(at).matches("[0-9]{1,2}")) {
                    return null;
                }
                n[i] = Integer.parseInt(tokens.get(at));
                if (n[i] < least || n[i] > most[i]) {
                    return null;
                }
                at++;
            }
            return n;
        }
    }

    int write(int letter) {
        if (!in(letter, 256)) {
            return OUTSIDE;
        }
        if (text.length() == 200) {
            return FULL;
        }
        text += (char) letter;
        return text.length();
    }

    int erase() {
        int n = text.length();
        text = "";
        return n;
    }

    int fault() {
        Telling telling = new Telling();
        return telling.all() ? NONE : telling.places.get(telling.at);
    }

    int draft() {
        Telling telling = new Telling();
        if (!telling.all()) {
            return NOT;
        }
        now = telling.weave;
        swatch = telling.rows;
        text = "";
        past.clear();
        Arrays.fill(kept, null);
        for (int i = 0; i < 3; i++) {
            spools.set(i, null);
        }
        return telling.clauses;
    }

    int end(int i, int what) {
        if (!in(i, now.ends())) {
            return UNKNOWN;
        }
        if (!in(what, 5)) {
            return OUTSIDE;
        }
        String c = now.column(i);
        return new int[] {now.shaftOf.get(i), now.warp.get(i), longest(c, 'x'), longest(c, 'o'), bits(c)}[what];
    }

    private int stitchesOf(int j) {
        int n = 0;
        for (int i = 0; i < now.ends(); i++) {
            boolean upperPick = j % 2 == 0, upperEnd = i % 2 == 0;
            if (upperPick && !upperEnd && now.up(j, i) || !upperPick && upperEnd && !now.up(j, i)) {
                n++;
            }
        }
        return n;
    }

    int pick(int j, int what) {
        if (!in(j, now.picks())) {
            return UNKNOWN;
        }
        if (!in(what, 7)) {
            return OUTSIDE;
        }
        String r = now.row(j);
        int n = stitchesOf(j);
        return new int[] {now.treadleOf.get(j), now.weft.get(j), longest(r, 'o'), longest(r, 'x'), bits(r), n == 0 ? 0 : 1, n}[what];
    }

    int treadle(int k) {
        return in(k, now.ties.size()) ? bits(now.ties.get(k)) : UNKNOWN;
    }

    int cross(int j, int i, int what) {
        if (!in(j, now.picks()) || !in(i, now.ends())) {
            return UNKNOWN;
        }
        if (!in(what, 2)) {
            return OUTSIDE;
        }
        if (what == 0) {
            return now.up(j, i) ? 1 : 0;
        }
        return (now.up(j, i) ? now.warp.get(i) : now.weft.get(j));
    }

    private void remember() {
        past.addLast(now.copy());
        if (past.size() > 8) {
            past.removeFirst();
        }
    }

    int draw(int i, int s) {
        if (!in(i, now.ends()) || !in(s, now.shafts)) {
            return UNKNOWN;
        }
        remember();
        return now.shaftOf.set(i, s);
    }

    int tie(int k, int s) {
        if (!in(k, now.ties.size()) || !in(s, now.shafts)) {
            return UNKNOWN;
        }
        remember();
        now.toggle(k, s);
        return bits(now.ties.get(k));
    }

    int tread(int j, int k) {
        if (!in(j, now.picks()) || !in(k, now.ties.size())) {
            return UNKNOWN;
        }
        remember();
        return now.treadleOf.set(j, k);
    }

    int warp(int i, int c) {
        if (!in(i, now.ends())) {
            return UNKNOWN;
        }
        if (!in(c, 10)) {
            return OUTSIDE;
        }
        remember();
        return now.warp.set(i, c);
    }

    int weft(int j, int c) {
        if (!in(j, now.picks())) {
            return UNKNOWN;
        }
        if (!in(c, 10)) {
            return OUTSIDE;
        }
        remember();
        return now.weft.set(j, c);
    }

    private List<String> columnsOfSwatch() {
        List<String> all = new ArrayList<>();
        for (int i = 0; !swatch.isEmpty() && i < swatch.get(0).length(); i++) {
            StringBuilder s = new StringBuilder();
            for (String row : swatch) {
                s.append(row.charAt(i));
            }
            all.add(s.toString());
        }
        return all;
    }

    int sample() {
        List<String> columns = columnsOfSwatch();
        List<String> unlikeColumns = columns.stream().distinct().toList();
        List<String> unlikeRows = swatch.stream().distinct().toList();
        if (swatch.isEmpty() || unlikeColumns.size() > 6 || unlikeRows.size() > 6) {
            return NOT;
        }
        remember();
        now = new Weave(columns.size(), swatch.size(), unlikeColumns.size(), unlikeRows.size());
        for (int i = 0; i < columns.size(); i++) {
            now.shaftOf.set(i, unlikeColumns.indexOf(columns.get(i)));
        }
        for (int j = 0; j < swatch.size(); j++) {
            now.treadleOf.set(j, unlikeRows.indexOf(swatch.get(j)));
        }
        for (int k = 0; k < unlikeRows.size(); k++) {
            now.ties.get(k).clear();
            for (int s = 0; s < unlikeColumns.size(); s++) {
                if (unlikeRows.get(k).charAt(columns.indexOf(unlikeColumns.get(s))) == 'x') {
                    now.ties.get(k).add(s);
                }
            }
        }
        return unlikeColumns.size();
    }

    int turn() {
        remember();
        Weave was = now;
        now = new Weave(was.picks(), was.ends(), was.ties.size(), was.shafts);
        for (int i = 0; i < was.picks(); i++) {
            now.shaftOf.set(i, was.treadleOf.get(i));
            now.warp.set(i, was.weft.get(i));
        }
        for (int j = 0; j < was.ends(); j++) {
            now.treadleOf.set(j, was.shaftOf.get(j));
            now.weft.set(j, was.warp.get(j));
        }
        now.ties.forEach(Set::clear);
        for (int k = 0; k < was.ties.size(); k++) {
            for (int s : was.ties.get(k)) {
                now.ties.get(s).add(k);
            }
        }
        return now.ends();
    }

    int undo() {
        if (past.isEmpty()) {
            return NOT;
        }
        now = past.removeLast();
        return past.size();
    }

    int keep(int k) {
        if (!in(k, 2)) {
            return UNKNOWN;
        }
        kept[k] = now.copy();
        return now.ends();
    }

    int back(int k) {
        if (!in(k, 2)) {
            return UNKNOWN;
        }
        if (kept[k] == null) {
            return NOT;
        }
        now = kept[k].copy();
        past.clear();
        return now.ends();
    }

    int least(int what) {
        List<String> columns = columnsOfSwatch();
        switch (what) {
            case 0: return swatch.size();
            case 1: return columns.size();
            case 2: return new TreeSet<>(columns).size();
            case 3: return new TreeSet<>(swatch).size();
            case 4: return swatch.equals(now.rows()) ? 1 : 0;
            default: return OUTSIDE;
        }
    }

    int sampled(int row, int column) {
        if (row < 0 || column < 0) {
            return OUTSIDE;
        }
        if (row >= swatch.size() || column >= swatch.get(0).length()) {
            return NONE;
        }
        return swatch.get(row).charAt(column) == 'x' ? 1 : 0;
    }

    int tamed(int j, int k) {
        if (!in(j, now.picks())) {
            return UNKNOWN;
        }
        if (k < 1 || k > 12) {
            return OUTSIDE;
        }
        int row = bits(now.row(j));
        int fewest = 99;
        for (int other = 0; other < 1 << now.ends(); other++) {
            if (mostRun(other, now.ends()) <= k) {
                fewest = Math.min(fewest, Integer.bitCount(row ^ other));
            }
        }
        return fewest;
    }

    private static int mostRun(int row, int length) {
        int most = 1, run = 1;
        for (int i = 1; i < length; i++) {
            run = (row >> i & 1) == (row >> (i - 1) & 1) ? run + 1 : 1;
            most = Math.max(most, run);
        }
        return most;
    }

    int changed(int one, int other) {
        if (!in(one, now.ends()) || !in(other, now.ends()) || one == other) {
            return UNKNOWN;
        }
        Weave then = now.copy();
        then.shaftOf.set(one, now.shaftOf.get(other));
        then.shaftOf.set(other, now.shaftOf.get(one));
        return eitherOfAll(then.rows());
    }

    int spool(int n) {
        if (!in(n, 3)) {
            return UNKNOWN;
        }
        spools.set(n, new ArrayDeque<>());
        return 0;
    }

    int wind(int n, int length) {
        if (!in(n, 3)) {
            return UNKNOWN;
        }
        if (length < 1 || length > 99) {
            return OUTSIDE;
        }
        if (spools.get(n) == null) {
            return NULL;
        }
        if (spools.get(n).size() == 8) {
            return ROOM;
        }
        spools.get(n).push(length);
        return spools.get(n).size();
    }

    private static int sum(Deque<Integer> spool) {
        return spool.stream().mapToInt(Integer::intValue).sum();
    }

    int pull(int n, int length) {
        if (!in(n, 3)) {
            return UNKNOWN;
        }
        if (length < 1 || length > 999) {
            return OUTSIDE;
        }
        Deque<Integer> spool = spools.get(n);
        if (spool == null) {
            return NULL;
        }
        if (sum(spool) < length) {
            return SHORT;
        }
        for (int i = 0; i < length; i++) {
            int top = spool.pop();
            if (top > 1) {
                spool.push(top - 1);
            }
        }
        return spool.size();
    }

    int knot(int n) {
        if (!in(n, 3)) {
            return UNKNOWN;
        }
        Deque<Integer> spool = spools.get(n);
        if (spool == null) {
            return NULL;
        }
        if (spool.isEmpty()) {
            return EMPTY;
        }
        if (spool.size() == 1) {
            return NOT;
        }
        spool.push(Math.min(99, spool.pop() + spool.pop()));
        return spool.peek();
    }

    int measure(int n, int what) {
        if (!in(n, 3)) {
            return UNKNOWN;
        }
        if (!in(what, 4)) {
            return OUTSIDE;
        }
        Deque<Integer> spool = spools.get(n);
        if (spool == null) {
            return NULL;
        }
        List<Integer> topmostFirst = new ArrayList<>(spool);
        switch (what) {
            case 0: return sum(spool);
            case 1: return spool.stream().mapToInt(Integer::intValue).max().orElse(EMPTY);
            case 2: return spool.isEmpty() ? EMPTY : spool.peek();
            default:
                int longer = 0;
                for (int i = 0; i + 1 < topmostFirst.size(); i++) {
                    longer += topmostFirst.get(i) > topmostFirst.get(i + 1) ? 1 : 0;
                }
                return longer;
        }
    }

    int rewind(int n, int m) {
        if (!in(n, 3) || !in(m, 3) || n == m) {
            return UNKNOWN;
        }
        if (spools.get(n) == null || spools.get(m) == null) {
            return NULL;
        }
        if (spools.get(n).size() + spools.get(m).size() > 8) {
            return ROOM;
        }
        while (!spools.get(n).isEmpty()) {
            spools.get(m).push(spools.get(n).pop());
        }
        return spools.get(m).size();
    }

    int drop(int n) {
        if (!in(n, 3)) {
            return UNKNOWN;
        }
        if (spools.get(n) == null) {
            return NULL;
        }
        int had = spools.get(n).size();
        spools.set(n, null);
        return had;
    }

    int count(int what) {
        switch (what) {
            case 0: return now.ends();
            case 1: return now.picks();
            case 2: return now.shafts;
            case 3: return now.ties.size();
            case 4: return eitherOfAll(now.columns());
            case 5: return eitherOfAll(now.rows());
            case 6: return repeat(now.columns());
            case 7: return repeat(now.rows());
            case 8:
                int stitches = 0;
                for (int j = 0; j < now.picks(); j++) {
                    stitches += stitchesOf(j);
                }
                return stitches;
            case 9: return alike();
            case 10: return idle(now.shafts, now.shaftOf);
            case 11: return idle(now.ties.size(), now.treadleOf);
            case 12: return String.join("", now.rows()).replace("o", "").length();
            case 13: return spools.stream().mapToInt(s -> s == null ? 0 : s.size()).sum();
            case 14: return past.size();
            case 15: return text.length();
            default: return OUTSIDE;
        }
    }

    private int alike() {
        int pairs = 0;
        for (int a = 0; a < now.shafts; a++) {
            for (int b = 0; b < a; b++) {
                boolean like = true;
                for (Set<Integer> tie : now.ties) {
                    like &= tie.contains(a) == tie.contains(b);
                }
                pairs += like ? 1 : 0;
            }
        }
        return pairs;
    }

    private static int idle(int all, List<Integer> used) {
        Set<Integer> idle = new TreeSet<>();
        for (int n = 0; n < all; n++) {
            if (!used.contains(n)) {
                idle.add(n);
            }
        }
        return bits(idle);
    }
}
