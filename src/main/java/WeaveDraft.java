/** A weaver's draft, its cloth, a sample, a small text that tells both, and spools of thread. */
public final class WeaveDraft {
    public static final int NONE = -1, UNKNOWN = -2, OUTSIDE = -3, NOT = -4, FULL = -5, NULL = -11, EMPTY = -12, ROOM = -13, SHORT = -14;

    private static final int MOST_THREADS = 12;
    private static final int MOST_SHAFTS = 6;
    private static final int MOST_COLOUR = 9;
    private static final int MOST_LETTER = 255;
    private static final int MOST_LENGTH = 99;
    private static final int MOST_PULLED = 999;
    private static final int SPOOLS = 3;
    private static final int KEPT = 2;

    private final Cloth cloth = new Cloth();
    private final Draft now = cloth.draft;
    private final Draft[] kept = new Draft[KEPT];
    private final boolean[] isKept = new boolean[KEPT];
    private final Past past = new Past();
    private final Sample swatch = new Sample();
    private final Text text = new Text();
    private final Reader reader = new Reader();
    private final Spool[] spools = new Spool[SPOOLS];

    public WeaveDraft() {
        now.begin(4, 4, 2, 2);
        for (int k = 0; k < KEPT; k++) {
            kept[k] = new Draft();
        }
        for (int i = 0; i < SPOOLS; i++) {
            spools[i] = new Spool();
        }
    }

    // ---- what is told

    public int write(int letter) {
        if (letter < 0 || letter > MOST_LETTER) {
            return OUTSIDE;
        }
        if (text.length >= Text.MOST) {
            return FULL;
        }
        text.letters[text.length] = letter;
        text.length++;
        return text.length;
    }

    public int erase() {
        int had = text.length;
        text.length = 0;
        return had;
    }

    public int fault() {
        return reader.read(text, now, swatch);
    }

    public int draft() {
        if (reader.read(text, now, swatch) != NONE) {
            return NOT;
        }
        reader.carryOut(now, swatch);
        text.length = 0;
        past.forget();
        for (int k = 0; k < KEPT; k++) {
            isKept[k] = false;
        }
        for (int i = 0; i < SPOOLS; i++) {
            spools[i].takeAway();
        }
        return reader.clauses;
    }

    public int end(int end, int what) {
        if (!now.hasEnd(end)) {
            return UNKNOWN;
        }
        switch (what) {
            case 0: return now.drawn[end];
            case 1: return now.endColours[end];
            case 2: return cloth.floatOfEnd(end, true);
            case 3: return cloth.floatOfEnd(end, false);
            case 4: return now.picksUp(end);
            default: return OUTSIDE;
        }
    }

    public int pick(int pick, int what) {
        if (!now.hasPick(pick)) {
            return UNKNOWN;
        }
        switch (what) {
            case 0: return now.trodden[pick];
            case 1: return now.pickColours[pick];
            // the weft lies over the ends that are not up, under those that are
            case 2: return cloth.floatOfPick(pick, false);
            case 3: return cloth.floatOfPick(pick, true);
            case 4: return now.endsUp(pick);
            case 5: return cloth.stitches(pick) > 0 ? 1 : 0;
            case 6: return cloth.stitches(pick);
            default: return OUTSIDE;
        }
    }

    public int treadle(int treadle) {
        return now.hasTreadle(treadle) ? now.tied[treadle] : UNKNOWN;
    }

    public int cross(int pick, int end, int what) {
        if (!now.hasPick(pick) || !now.hasEnd(end)) {
            return UNKNOWN;
        }
        boolean up = now.isUp(pick, end);
        switch (what) {
            case 0: return up ? 1 : 0;
            case 1: return up ? now.endColours[end] : now.pickColours[pick];
            default: return OUTSIDE;
        }
    }

    // ---- what is done

    public int draw(int end, int shaft) {
        if (!now.hasEnd(end) || !now.hasShaft(shaft)) {
            return UNKNOWN;
        }
        past.remember(now);
        int was = now.drawn[end];
        now.drawn[end] = shaft;
        return was;
    }

    public int tie(int treadle, int shaft) {
        if (!now.hasTreadle(treadle) || !now.hasShaft(shaft)) {
            return UNKNOWN;
        }
        past.remember(now);
        now.tied[treadle] ^= 1 << shaft;
        return now.tied[treadle];
    }

    public int tread(int pick, int treadle) {
        if (!now.hasPick(pick) || !now.hasTreadle(treadle)) {
            return UNKNOWN;
        }
        past.remember(now);
        int was = now.trodden[pick];
        now.trodden[pick] = treadle;
        return was;
    }

    public int warp(int end, int colour) {
        if (!now.hasEnd(end)) {
            return UNKNOWN;
        }
        if (!isColour(colour)) {
            return OUTSIDE;
        }
        past.remember(now);
        int was = now.endColours[end];
        now.endColours[end] = colour;
        return was;
    }

    public int weft(int pick, int colour) {
        if (!now.hasPick(pick)) {
            return UNKNOWN;
        }
        if (!isColour(colour)) {
            return OUTSIDE;
        }
        past.remember(now);
        int was = now.pickColours[pick];
        now.pickColours[pick] = colour;
        return was;
    }

    public int sample() {
        if (swatch.rows == 0 || swatch.shafts() > MOST_SHAFTS || swatch.treadles() > MOST_SHAFTS) {
            return NOT;
        }
        past.remember(now);
        swatch.makeDraft(now);
        return now.shafts;
    }

    public int turn() {
        now.turnFrom(past.remember(now));
        return now.ends;
    }

    public int undo() {
        if (past.steps == 0) {
            return NOT;
        }
        now.copyFrom(past.takeLatest());
        return past.steps;
    }

    public int keep(int k) {
        if (k < 0 || k >= KEPT) {
            return UNKNOWN;
        }
        kept[k].copyFrom(now);
        isKept[k] = true;
        return now.ends;
    }

    public int back(int k) {
        if (k < 0 || k >= KEPT) {
            return UNKNOWN;
        }
        if (!isKept[k]) {
            return NOT;
        }
        now.copyFrom(kept[k]);
        past.forget();
        return now.ends;
    }

    // ---- what is found

    public int least(int what) {
        switch (what) {
            case 0: return swatch.rows;
            case 1: return swatch.columns;
            case 2: return swatch.shafts();
            case 3: return swatch.treadles();
            case 4: return swatch.isClothOf(now) ? 1 : 0;
            default: return OUTSIDE;
        }
    }

    public int sampled(int row, int column) {
        if (row < 0 || column < 0) {
            return OUTSIDE;
        }
        if (row >= swatch.rows || column >= swatch.columns) {
            return NONE;
        }
        return swatch.crosses[row] >> column & 1;
    }

    public int tamed(int pick, int k) {
        if (!now.hasPick(pick)) {
            return UNKNOWN;
        }
        if (k < 1 || k > MOST_THREADS) {
            return OUTSIDE;
        }
        return cloth.fewestTurned(pick, k);
    }

    public int changed(int one, int other) {
        if (!now.hasEnd(one) || !now.hasEnd(other) || one == other) {
            return UNKNOWN;
        }
        now.changeAbout(one, other);
        int longest = cloth.longestOfPicks();
        // it is only foretold: changed about once more, all is as it was
        now.changeAbout(one, other);
        return longest;
    }

    // ---- spools

    public int spool(int spool) {
        if (!isSpool(spool)) {
            return UNKNOWN;
        }
        spools[spool].makeNew();
        return 0;
    }

    public int wind(int spool, int length) {
        if (!isSpool(spool)) {
            return UNKNOWN;
        }
        if (length < 1 || length > MOST_LENGTH) {
            return OUTSIDE;
        }
        Spool it = spools[spool];
        if (it.missing) {
            return NULL;
        }
        if (it.threads >= Spool.MOST) {
            return ROOM;
        }
        it.windOver(length);
        return it.threads;
    }

    public int pull(int spool, int length) {
        if (!isSpool(spool)) {
            return UNKNOWN;
        }
        if (length < 1 || length > MOST_PULLED) {
            return OUTSIDE;
        }
        Spool it = spools[spool];
        if (it.missing) {
            return NULL;
        }
        if (it.allLengths() < length) {
            return SHORT;
        }
        it.takeOff(length);
        return it.threads;
    }

    public int knot(int spool) {
        if (!isSpool(spool)) {
            return UNKNOWN;
        }
        Spool it = spools[spool];
        if (it.missing) {
            return NULL;
        }
        if (it.threads == 0) {
            return EMPTY;
        }
        if (it.threads == 1) {
            return NOT;
        }
        it.joinTopmost();
        return it.topmost();
    }

    public int measure(int spool, int what) {
        if (!isSpool(spool)) {
            return UNKNOWN;
        }
        if (what < 0 || what > 3) {
            return OUTSIDE;
        }
        Spool it = spools[spool];
        if (it.missing) {
            return NULL;
        }
        if (it.threads == 0 && (what == 1 || what == 2)) {
            return EMPTY;
        }
        switch (what) {
            case 0: return it.allLengths();
            case 1: return it.longest();
            case 2: return it.topmost();
            default: return it.longerThanBelow();
        }
    }

    public int rewind(int spool, int other) {
        if (!isSpool(spool) || !isSpool(other) || spool == other) {
            return UNKNOWN;
        }
        Spool from = spools[spool];
        Spool to = spools[other];
        if (from.missing || to.missing) {
            return NULL;
        }
        if (from.threads + to.threads > Spool.MOST) {
            return ROOM;
        }
        for (int i = from.threads - 1; i >= 0; i--) {
            to.windOver(from.lengths[i]);
        }
        from.threads = 0;
        return to.threads;
    }

    public int drop(int spool) {
        if (!isSpool(spool)) {
            return UNKNOWN;
        }
        Spool it = spools[spool];
        if (it.missing) {
            return NULL;
        }
        int had = it.threads;
        it.takeAway();
        return had;
    }

    public int count(int what) {
        switch (what) {
            case 0: return now.ends;
            case 1: return now.picks;
            case 2: return now.shafts;
            case 3: return now.treadles;
            case 4: return cloth.longestOfEnds();
            case 5: return cloth.longestOfPicks();
            case 6: return cloth.repeatOfEnds();
            case 7: return cloth.repeatOfPicks();
            case 8: return cloth.allStitches();
            case 9: return now.pairsAlike();
            case 10: return now.idleShafts();
            case 11: return now.idleTreadles();
            case 12: return cloth.crossingsUp();
            case 13: return threadsOfAll();
            case 14: return past.steps;
            case 15: return text.length;
            default: return OUTSIDE;
        }
    }

    private int threadsOfAll() {
        int all = 0;
        for (int i = 0; i < SPOOLS; i++) {
            all += spools[i].threads;
        }
        return all;
    }

    private static boolean isColour(int colour) {
        return colour >= 0 && colour <= MOST_COLOUR;
    }

    private static boolean isSpool(int spool) {
        return spool >= 0 && spool < SPOOLS;
    }

    /** Sets of numbers from 0 on, by bits. */
    private static final class Bits {
        static int longestRun(int bits, int length) {
            int longest = 0;
            int run = 0;
            for (int i = 0; i < length; i++) {
                run = (bits >> i & 1) == 1 ? run + 1 : 0;
                longest = Math.max(longest, run);
            }
            return longest;
        }

        static int longestRunEitherWay(int bits, int length) {
            return Math.max(longestRun(bits, length), longestRun(~bits, length));
        }

        static int lowest(int howMany) {
            return (1 << howMany) - 1;
        }
    }

    /** What is drawn, tied, trodden, coloured; sets are held by bits. */
    private static final class Draft {
        int ends;
        int picks;
        int shafts;
        int treadles;
        final int[] drawn = new int[MOST_THREADS];
        final int[] tied = new int[MOST_SHAFTS];
        final int[] trodden = new int[MOST_THREADS];
        final int[] endColours = new int[MOST_THREADS];
        final int[] pickColours = new int[MOST_THREADS];

        /** Makes all as at first; each number is 1 at least and within its most. */
        void begin(int newEnds, int newPicks, int newShafts, int newTreadles) {
            // they divide below: no caller tells fewer than 1, and none may
            if (newShafts < 1 || newTreadles < 1) {
                return;
            }
            ends = newEnds;
            picks = newPicks;
            shafts = newShafts;
            treadles = newTreadles;
            for (int i = 0; i < MOST_THREADS; i++) {
                drawn[i] = i % shafts;
                trodden[i] = i % treadles;
                endColours[i] = 0;
                pickColours[i] = 1;
            }
            for (int k = 0; k < MOST_SHAFTS; k++) {
                tied[k] = 1 << k % shafts;
            }
        }

        void copyFrom(Draft other) {
            ends = other.ends;
            picks = other.picks;
            shafts = other.shafts;
            treadles = other.treadles;
            System.arraycopy(other.drawn, 0, drawn, 0, MOST_THREADS);
            System.arraycopy(other.tied, 0, tied, 0, MOST_SHAFTS);
            System.arraycopy(other.trodden, 0, trodden, 0, MOST_THREADS);
            System.arraycopy(other.endColours, 0, endColours, 0, MOST_THREADS);
            System.arraycopy(other.pickColours, 0, pickColours, 0, MOST_THREADS);
        }

        /** Becomes another draft, turned: that one must not be this one. */
        void turnFrom(Draft other) {
            ends = other.picks;
            picks = other.ends;
            shafts = other.treadles;
            treadles = other.shafts;
            System.arraycopy(other.trodden, 0, drawn, 0, MOST_THREADS);
            System.arraycopy(other.drawn, 0, trodden, 0, MOST_THREADS);
            System.arraycopy(other.pickColours, 0, endColours, 0, MOST_THREADS);
            System.arraycopy(other.endColours, 0, pickColours, 0, MOST_THREADS);
            for (int k = 0; k < treadles; k++) {
                tied[k] = other.treadlesOf(k);
            }
        }

        boolean hasEnd(int end) {
            return end >= 0 && end < ends;
        }

        boolean hasPick(int pick) {
            return pick >= 0 && pick < picks;
        }

        boolean hasShaft(int shaft) {
            return shaft >= 0 && shaft < shafts;
        }

        boolean hasTreadle(int treadle) {
            return treadle >= 0 && treadle < treadles;
        }

        boolean isUp(int pick, int end) {
            return (tied[trodden[pick]] >> drawn[end] & 1) == 1;
        }

        int endsUp(int pick) {
            int up = 0;
            for (int i = 0; i < ends; i++) {
                if (isUp(pick, i)) {
                    up |= 1 << i;
                }
            }
            return up;
        }

        int picksUp(int end) {
            int up = 0;
            for (int j = 0; j < picks; j++) {
                if (isUp(j, end)) {
                    up |= 1 << j;
                }
            }
            return up;
        }

        int treadlesOf(int shaft) {
            int lifting = 0;
            for (int k = 0; k < treadles; k++) {
                if ((tied[k] >> shaft & 1) == 1) {
                    lifting |= 1 << k;
                }
            }
            return lifting;
        }

        int pairsAlike() {
            int pairs = 0;
            for (int one = 0; one < shafts; one++) {
                for (int other = one + 1; other < shafts; other++) {
                    if (treadlesOf(one) == treadlesOf(other)) {
                        pairs++;
                    }
                }
            }
            return pairs;
        }

        int idleShafts() {
            int idle = Bits.lowest(shafts);
            for (int i = 0; i < ends; i++) {
                idle &= ~(1 << drawn[i]);
            }
            return idle;
        }

        int idleTreadles() {
            int idle = Bits.lowest(treadles);
            for (int j = 0; j < picks; j++) {
                idle &= ~(1 << trodden[j]);
            }
            return idle;
        }

        void changeAbout(int one, int other) {
            int shaft = drawn[one];
            drawn[one] = drawn[other];
            drawn[other] = shaft;
        }
    }

    /** The draft that is on the loom, and what is found of its cloth. */
    private static final class Cloth {
        // every other end, counted from 0, is of the upper layer
        private static final int UPPER_ENDS = 0x555;
        private static final int TOO_MANY = MOST_THREADS + 1;

        final Draft draft = new Draft();
        // where threads that are to be compared are put side by side
        private final int[] threads = new int[MOST_THREADS];
        // at n: how few of the first n crossings must be turned about, if the last of them is then up, is not
        private final int[] lastUp = new int[MOST_THREADS + 1];
        private final int[] lastDown = new int[MOST_THREADS + 1];

        int floatOfEnd(int end, boolean up) {
            int bits = draft.picksUp(end);
            return Bits.longestRun(up ? bits : ~bits, draft.picks);
        }

        int floatOfPick(int pick, boolean up) {
            int bits = draft.endsUp(pick);
            return Bits.longestRun(up ? bits : ~bits, draft.ends);
        }

        int stitches(int pick) {
            int up = draft.endsUp(pick);
            boolean upper = pick % 2 == 0;
            int locking = upper ? up & ~UPPER_ENDS : ~up & UPPER_ENDS;
            return Integer.bitCount(locking & Bits.lowest(draft.ends));
        }

        int allStitches() {
            int all = 0;
            for (int j = 0; j < draft.picks; j++) {
                all += stitches(j);
            }
            return all;
        }

        int crossingsUp() {
            int all = 0;
            for (int j = 0; j < draft.picks; j++) {
                all += Integer.bitCount(draft.endsUp(j));
            }
            return all;
        }

        int longestOfEnds() {
            int longest = 0;
            for (int i = 0; i < draft.ends; i++) {
                longest = Math.max(longest, Bits.longestRunEitherWay(draft.picksUp(i), draft.picks));
            }
            return longest;
        }

        int longestOfPicks() {
            int longest = 0;
            for (int j = 0; j < draft.picks; j++) {
                longest = Math.max(longest, Bits.longestRunEitherWay(draft.endsUp(j), draft.ends));
            }
            return longest;
        }

        int repeatOfEnds() {
            for (int i = 0; i < draft.ends; i++) {
                threads[i] = draft.picksUp(i);
            }
            return repeatOf(draft.ends);
        }

        int repeatOfPicks() {
            for (int j = 0; j < draft.picks; j++) {
                threads[j] = draft.endsUp(j);
            }
            return repeatOf(draft.picks);
        }

        private int repeatOf(int length) {
            for (int r = 1; r < length; r++) {
                if (repeatsBy(r, length)) {
                    return r;
                }
            }
            return length;
        }

        private boolean repeatsBy(int r, int length) {
            for (int i = 0; i + r < length; i++) {
                if (threads[i] != threads[i + r]) {
                    return false;
                }
            }
            return true;
        }

        int fewestTurned(int pick, int mostRun) {
            int up = draft.endsUp(pick);
            lastUp[0] = 0;
            lastDown[0] = 0;
            for (int n = 1; n <= draft.ends; n++) {
                lastUp[n] = TOO_MANY;
                lastDown[n] = TOO_MANY;
                for (int run = 1; run <= mostRun && run <= n; run++) {
                    int upInRun = Integer.bitCount(up >> n - run & Bits.lowest(run));
                    lastUp[n] = Math.min(lastUp[n], lastDown[n - run] + run - upInRun);
                    lastDown[n] = Math.min(lastDown[n], lastUp[n - run] + upInRun);
                }
            }
            return Math.min(lastUp[draft.ends], lastDown[draft.ends]);
        }
    }

    /** The drafts ahead of the last changes, in a ring that forgets the oldest. */
    private static final class Past {
        private static final int MOST = 8;

        final Draft[] ring = new Draft[MOST];
        int oldest;
        int steps;

        Past() {
            for (int i = 0; i < MOST; i++) {
                ring[i] = new Draft();
            }
        }

        /** Answers the copy that it has made of the draft. */
        Draft remember(Draft draft) {
            if (steps == MOST) {
                oldest = (oldest + 1) % MOST;
                steps--;
            }
            Draft copy = ring[(oldest + steps) % MOST];
            copy.copyFrom(draft);
            steps++;
            return copy;
        }

        /** Only for when there are steps. */
        Draft takeLatest() {
            steps--;
            return ring[(oldest + steps) % MOST];
        }

        void forget() {
            steps = 0;
        }
    }

    /** Rows of crosses and rings; a cross is a bit of its row. */
    private static final class Sample {
        int rows;
        int columns;
        final int[] crosses = new int[MOST_THREADS];
        private final int[] crossesOfColumns = new int[MOST_THREADS];
        private final int[] shaftOf = new int[MOST_THREADS];
        private final int[] treadleOf = new int[MOST_THREADS];

        void makeEmpty() {
            rows = 0;
            columns = 0;
        }

        void addRow(int bits, int length) {
            if (rows < MOST_THREADS) {
                crosses[rows] = bits;
                columns = length;
                rows++;
            }
        }

        int shafts() {
            for (int i = 0; i < columns; i++) {
                crossesOfColumns[i] = 0;
                for (int j = 0; j < rows; j++) {
                    crossesOfColumns[i] |= (crosses[j] >> i & 1) << j;
                }
            }
            return numberUnlike(crossesOfColumns, columns, shaftOf);
        }

        int treadles() {
            return numberUnlike(crosses, rows, treadleOf);
        }

        /** Numbers the threads, like ones alike, by the first that is so: how many numbers it took. */
        private static int numberUnlike(int[] threads, int length, int[] numbers) {
            int unlike = 0;
            for (int i = 0; i < length; i++) {
                int first = firstLike(threads, i);
                if (first == i) {
                    numbers[i] = unlike;
                    unlike++;
                } else {
                    numbers[i] = numbers[first];
                }
            }
            return unlike;
        }

        private static int firstLike(int[] threads, int place) {
            for (int i = 0; i < place; i++) {
                if (threads[i] == threads[place]) {
                    return i;
                }
            }
            return place;
        }

        /** Only for a sample with rows that needs no more shafts and treadles than there can be. */
        void makeDraft(Draft draft) {
            draft.begin(columns, rows, shafts(), treadles());
            for (int i = 0; i < columns; i++) {
                draft.drawn[i] = shaftOf[i];
            }
            for (int j = 0; j < rows; j++) {
                draft.trodden[j] = treadleOf[j];
                draft.tied[treadleOf[j]] = shaftsUp(j);
            }
        }

        private int shaftsUp(int row) {
            int up = 0;
            for (int i = 0; i < columns; i++) {
                up |= (crosses[row] >> i & 1) << shaftOf[i];
            }
            return up;
        }

        boolean isClothOf(Draft draft) {
            if (rows != draft.picks || columns != draft.ends) {
                return false;
            }
            for (int j = 0; j < rows; j++) {
                if (crosses[j] != draft.endsUp(j)) {
                    return false;
                }
            }
            return true;
        }
    }

    /** The letters told, and the token at which the reading is. */
    private static final class Text {
        static final int MOST = 200;
        static final int END = 0, WORD = 1, NUMBER = 2, SIGN = 3;

        final int[] letters = new int[MOST];
        int length;
        int start;
        int stop;
        int kind;

        void readFromStart() {
            stop = 0;
        }

        /** Goes to the next token; behind the last one that is END, which stands at the length. */
        void goOn() {
            start = stop;
            while (start < length && letters[start] == ' ') {
                start++;
            }
            stop = start;
            if (start >= length) {
                kind = END;
                return;
            }
            kind = kindOf(letters[start]);
            stop++;
            while (kind != SIGN && stop < length && kindOf(letters[stop]) == kind) {
                stop++;
            }
        }

        private static int kindOf(int letter) {
            if (letter >= 'a' && letter <= 'z') {
                return WORD;
            }
            return letter >= '0' && letter <= '9' ? NUMBER : SIGN;
        }

        int size() {
            return stop - start;
        }

        boolean isWord(String word) {
            if (kind != WORD || size() != word.length()) {
                return false;
            }
            for (int i = 0; i < word.length(); i++) {
                if (letters[start + i] != word.charAt(i)) {
                    return false;
                }
            }
            return true;
        }

        boolean isSemicolon() {
            return kind == SIGN && letters[start] == ';';
        }

        /** The number that the token is, NONE if it is none of 1 or 2 digits. */
        int number() {
            if (kind != NUMBER || size() > 2) {
                return NONE;
            }
            int value = 0;
            for (int i = start; i < stop; i++) {
                value = 10 * value + letters[i] - '0';
            }
            return value;
        }

        boolean isRow() {
            if (kind != WORD || size() > MOST_THREADS) {
                return false;
            }
            for (int i = start; i < stop; i++) {
                if (letters[i] != 'x' && letters[i] != 'o') {
                    return false;
                }
            }
            return true;
        }

        /** Only for a token that is a row. */
        int crosses() {
            int bits = 0;
            for (int i = start; i < stop; i++) {
                if (letters[i] == 'x') {
                    bits |= 1 << i - start;
                }
            }
            return bits;
        }
    }

    /** Reads a text to its first fault, without changing anything; then its clauses can be done. */
    private static final class Reader {
        private static final int MOST_CLAUSES = 24;
        private static final int MOST_NUMBERS = 4;
        private static final int DRAFT = 0, DRAW = 1, TIE = 2, TREAD = 3, WARP = 4, WEFT = 5, CLEAR = 6, ROW = 7;

        int clauses;
        private final int[] kinds = new int[MOST_CLAUSES];
        // of a row: its crosses, its length
        private final int[] numbers = new int[MOST_CLAUSES * MOST_NUMBERS];
        // how large the draft and the sample will be, where the reading is
        private int ends;
        private int picks;
        private int shafts;
        private int treadles;
        private int rows;
        private int columns;

        /** The place of the first fault, or NONE. */
        int read(Text text, Draft draft, Sample sample) {
            setSizes(draft.ends, draft.picks, draft.shafts, draft.treadles);
            rows = sample.rows;
            columns = sample.columns;
            clauses = 0;
            text.readFromStart();
            for (int i = 0; i < MOST_CLAUSES; i++) {
                if (!readClause(text)) {
                    return text.start;
                }
                clauses++;
                text.goOn();
                if (text.kind == Text.END) {
                    return NONE;
                }
                if (!text.isSemicolon()) {
                    return text.start;
                }
            }
            return text.start;
        }

        private void setSizes(int newEnds, int newPicks, int newShafts, int newTreadles) {
            ends = newEnds;
            picks = newPicks;
            shafts = newShafts;
            treadles = newTreadles;
        }

        private boolean readClause(Text text) {
            text.goOn();
            int kind = clauseKind(text);
            if (kind == NONE || kind == ROW && rows >= MOST_THREADS) {
                return false;
            }
            kinds[clauses] = kind;
            if (kind == ROW) {
                return readRow(text);
            }
            if (!readNumbers(text, kind)) {
                return false;
            }
            if (kind == DRAFT) {
                setSizes(number(clauses, 0), number(clauses, 1), number(clauses, 2), number(clauses, 3));
            }
            if (kind == CLEAR) {
                rows = 0;
            }
            return true;
        }

        private static int clauseKind(Text text) {
            for (int kind = DRAFT; kind <= ROW; kind++) {
                if (text.isWord(wordOf(kind))) {
                    return kind;
                }
            }
            return NONE;
        }

        private static String wordOf(int kind) {
            switch (kind) {
                case DRAFT: return "draft";
                case DRAW: return "draw";
                case TIE: return "tie";
                case TREAD: return "tread";
                case WARP: return "warp";
                case WEFT: return "weft";
                case CLEAR: return "clear";
                default: return "row";
            }
        }

        private boolean readRow(Text text) {
            text.goOn();
            if (!text.isRow() || rows > 0 && text.size() != columns) {
                return false;
            }
            columns = text.size();
            rows++;
            setNumber(0, text.crosses());
            setNumber(1, columns);
            return true;
        }

        private boolean readNumbers(Text text, int kind) {
            int least = kind == DRAFT ? 1 : 0;
            for (int place = 0; place < numbersOf(kind); place++) {
                text.goOn();
                int value = text.number();
                if (value < least || value > mostOf(kind, place)) {
                    return false;
                }
                setNumber(place, value);
            }
            return true;
        }

        private static int numbersOf(int kind) {
            switch (kind) {
                case DRAFT: return MOST_NUMBERS;
                case CLEAR: return 0;
                default: return 2;
            }
        }

        private int mostOf(int kind, int place) {
            boolean first = place == 0;
            switch (kind) {
                case DRAFT: return place < 2 ? MOST_THREADS : MOST_SHAFTS;
                case DRAW: return first ? ends - 1 : shafts - 1;
                case TIE: return first ? treadles - 1 : shafts - 1;
                case TREAD: return first ? picks - 1 : treadles - 1;
                case WARP: return first ? ends - 1 : MOST_COLOUR;
                default: return first ? picks - 1 : MOST_COLOUR;
            }
        }

        private void setNumber(int place, int value) {
            numbers[clauses * MOST_NUMBERS + place] = value;
        }

        private int number(int clause, int place) {
            return numbers[clause * MOST_NUMBERS + place];
        }

        /** Only behind a reading without a fault, of this draft and sample. */
        void carryOut(Draft draft, Sample sample) {
            for (int i = 0; i < clauses; i++) {
                carryOutClause(i, draft, sample);
            }
        }

        private void carryOutClause(int clause, Draft draft, Sample sample) {
            int first = number(clause, 0);
            int second = number(clause, 1);
            switch (kinds[clause]) {
                case DRAFT:
                    draft.begin(first, second, number(clause, 2), number(clause, 3));
                    break;
                case DRAW:
                    draft.drawn[first] = second;
                    break;
                case TIE:
                    draft.tied[first] ^= 1 << second;
                    break;
                case TREAD:
                    draft.trodden[first] = second;
                    break;
                case WARP:
                    draft.endColours[first] = second;
                    break;
                case WEFT:
                    draft.pickColours[first] = second;
                    break;
                case CLEAR:
                    sample.makeEmpty();
                    break;
                default:
                    sample.addRow(first, second);
                    break;
            }
        }
    }

    /** Threads one over the other, the topmost last. */
    private static final class Spool {
        static final int MOST = 8;

        boolean missing = true;
        int threads;
        final int[] lengths = new int[MOST];

        void makeNew() {
            missing = false;
            threads = 0;
        }

        void takeAway() {
            missing = true;
            threads = 0;
        }

        void windOver(int length) {
            if (threads < MOST) {
                lengths[threads] = length;
                threads++;
            }
        }

        void takeOff(int length) {
            int left = length;
            for (int i = threads - 1; i >= 0 && left > 0; i--) {
                int taken = Math.min(left, lengths[i]);
                lengths[i] -= taken;
                left -= taken;
                // a thread that is used up is no thread of length 0
                if (lengths[i] == 0) {
                    threads = i;
                }
            }
        }

        /** Only for two threads or more. */
        void joinTopmost() {
            int together = lengths[threads - 1] + lengths[threads - 2];
            threads--;
            lengths[threads - 1] = Math.min(together, MOST_LENGTH);
        }

        int topmost() {
            return threads > 0 ? lengths[threads - 1] : 0;
        }

        int allLengths() {
            int all = 0;
            for (int i = 0; i < threads; i++) {
                all += lengths[i];
            }
            return all;
        }

        int longest() {
            int longest = 0;
            for (int i = 0; i < threads; i++) {
                longest = Math.max(longest, lengths[i]);
            }
            return longest;
        }

        int longerThanBelow() {
            int longer = 0;
            for (int i = 1; i < threads; i++) {
                if (lengths[i] > lengths[i - 1]) {
                    longer++;
                }
            }
            return longer;
        }
    }
}
