import java.util.Arrays;

/** Judges walk on pebbles in their shoes and find by what they felt; ../shared/DOC.md says how. */
public final class PebbleInShoe {
    public static final int NONE = -1, BAD = -2, STATE = -3, FULL = -4;
    public static final long NO = -4611686018427387904L;

    private static final int NO_SUCH = -5, NO_PEBBLE = -6, NOT_SO = -7;
    private static final int MISSING = -11, OUTSIDE = -12, ANOTHER = -13, BELOW_ZERO = -14;
    private static final int FAULT = -100;

    private static final int MOST_JUDGES = 4, MOST_PEBBLES = 6, MOST_TEXTS = 6;
    private static final int TAPE_SIZE = 160, SHEETS = 4, ROW_SIZE = 40;
    private static final int THICKEST = 20, MOST_KEPT_MILES = 999, MOST_PAIN = 99999, MOST_SIZE = 99;
    private static final int LAST_KIND = 5, MOST_MORE = 9, MOST_MILES = 60;
    private static final int LAST_SEED = 99999, MOST_SEEDS = 40, MOST_LOT = 9;

    private static final int FEELS = 0, WEARS = 1, BARS = 2;
    private static final int PEBBLE = 0, FLINT = 1, SHELL = 2, SHARD = 3, PEARL = 4, GRIT = 5, JUDGE = 6;
    private static final int BYTES = 0, SHORTS = 1, INTS = 2, NO_SORT = -1;

    private static final String FIRST_LAW = "feels size - round ; wears 1 ; bars 30 ;";

    private final Texts texts = new Texts();
    private final Reader tape = new Reader(texts);
    private final Court now = new Court(texts);
    private final Court thought = new Court(texts);
    private final Court kept = new Court(texts);
    private final Sheets rows = new Sheets();
    private final Turns turns = new Turns();
    private boolean hasImage;

    public PebbleInShoe() {
        for (int i = 0; i < FIRST_LAW.length(); i++) {
            tape.add(FIRST_LAW.charAt(i));
        }
        tape.read();
    }

    // ---- judges, the law

    public int count(int what) {
        switch (what) {
            case 0: return now.pebbles;
            case 1: return now.judges;
            case 2: return texts.number;
            case 3: return now.law;
            case 4: return tape.length;
            default: return BAD;
        }
    }

    public int judge(int thick) {
        if (!within(thick, THICKEST)) {
            return BAD;
        }
        return now.addJudge(thick);
    }

    public int shoe(int j, int what, int v) {
        if (!now.hasJudge(j)) {
            return NO_SUCH;
        }
        if (!within(what, 1) || !within(v, what == 0 ? THICKEST : MOST_KEPT_MILES)) {
            return NOT_SO;
        }
        int[] row = what == 0 ? now.soles : now.miles;
        int was = row[j];
        row[j] = v;
        return was;
    }

    public int bench(int j, int what) {
        if (!now.hasJudge(j)) {
            return NO_SUCH;
        }
        switch (what) {
            case 0: return now.soles[j];
            case 1: return now.miles[j];
            case 2: return now.pains[j];
            default: return NOT_SO;
        }
    }

    public int feed(int n, int a, int b, int c, int d, int e) {
        if (n < 1 || n > 5 || !isByte(a) || !isByte(b) || !isByte(c) || !isByte(d) || !isByte(e)) {
            return BAD;
        }
        if (tape.length + n > TAPE_SIZE) {
            return FULL;
        }
        for (int i = 0; i < n; i++) {
            tape.add(i == 0 ? a : i == 1 ? b : i == 2 ? c : i == 3 ? d : e);
        }
        return tape.length;
    }

    public int text() {
        if (texts.number >= MOST_TEXTS) {
            return FULL;
        }
        return tape.read();
    }

    public int force(int t) {
        if (t < 0 || t >= texts.number) {
            return BAD;
        }
        int was = now.law;
        now.law = t;
        return was;
    }

    public int asks(int part, int j, int p) {
        if (!within(part, BARS) || !now.hasJudge(j) || !now.hasPebble(p)) {
            return BAD;
        }
        return now.says(part, j, p);
    }

    // ---- pebbles, miles

    public int pebble(int kindMore, int sizeRound) {
        if (!within(kindMore, 10 * LAST_KIND + MOST_MORE) || !within(sizeRound, 100 * MOST_SIZE + MOST_SIZE)) {
            return BAD;
        }
        return now.addPebble(kindMore, sizeRound);
    }

    public int put(int p, int what, int v) {
        if (!now.hasPebble(p)) {
            return NO_SUCH;
        }
        if (!within(what, 1) || !within(v, MOST_SIZE)) {
            return NOT_SO;
        }
        int[] row = what == 0 ? now.size : now.round;
        int was = row[p];
        row[p] = v;
        return was;
    }

    public int told(int p, int what) {
        if (!now.hasPebble(p)) {
            return NO_SUCH;
        }
        switch (what) {
            case 0: return now.kind[p];
            case 1: return now.more[p];
            case 2: return now.size[p];
            case 3: return now.round[p];
            case 4: return now.isSand(p) ? 1 : 0;
            default: return NOT_SO;
        }
    }

    public int walk(int j, int p, int n) {
        if (!now.hasBoth(j, p)) {
            return NO_SUCH;
        }
        if (!within(n, MOST_MILES)) {
            return NOT_SO;
        }
        if (now.miles[j] + n > MOST_KEPT_MILES) {
            return FULL;
        }
        return now.go(j, p, n);
    }

    public int hear(int j, int p, int n, int what) {
        if (!now.hasBoth(j, p)) {
            return NO_SUCH;
        }
        if (!within(n, MOST_MILES) || !within(what, 3)) {
            return NOT_SO;
        }
        think();
        int felt = thought.go(j, p, n);
        return what == 3 ? thought.soles[j] : outcome(j, p, felt, what);
    }

    // ---- what judges find

    public int fewest(int j, int p) {
        if (!now.hasBoth(j, p)) {
            return NO_SUCH;
        }
        return leastBit(guiltyBits(j, p));
    }

    public int sand(int j, int p) {
        if (!now.hasBoth(j, p)) {
            return NO_SUCH;
        }
        think();
        for (int n = 0; n <= MOST_MILES; n++) {
            if (thought.isSand(p)) {
                return n;
            }
            thought.mile(j, p, 0);
        }
        return NONE;
    }

    public int unlike(int a, int b, int p) {
        if (!now.hasBoth(a, p) || !now.hasJudge(b) || a == b) {
            return NO_SUCH;
        }
        return leastBit(guiltyBits(a, p) ^ guiltyBits(b, p));
    }

    public int hardest(int n, int what) {
        if (!within(n, MOST_MILES) || !within(what, 1)) {
            return BAD;
        }
        int hardest = NONE;
        int most = NONE;
        for (int j = 0; j < now.judges; j++) {
            int guilty = guiltyOfAll(j, n);
            if (guilty > most) {
                most = guilty;
                hardest = j;
            }
        }
        return what == 0 ? hardest : most;
    }

    public int thick(int j, int p, int n) {
        if (!now.hasBoth(j, p)) {
            return NO_SUCH;
        }
        if (!within(n, MOST_MILES)) {
            return NOT_SO;
        }
        for (int v = 0; v <= THICKEST; v++) {
            think();
            thought.soles[j] = v;
            if (thought.verdict(j, p, thought.go(j, p, n)) == 0) {
                return v;
            }
        }
        return NONE;
    }

    public int order(int j, int n, int goalWhat) {
        if (!now.hasJudge(j)) {
            return NO_SUCH;
        }
        if (!within(n, MOST_MILES) || !isPairOfBits(goalWhat)) {
            return NOT_SO;
        }
        weighCases(j, n, goalWhat / 10 == 1);
        turns.solve(now.pebbles, false);
        return goalWhat % 10 == 0 ? turns.digits(now.pebbles) : turns.total();
    }

    public int counsel(int j, int n, int what) {
        if (!now.hasJudge(j)) {
            return NO_SUCH;
        }
        if (!within(n, MOST_MILES) || !within(what, 1)) {
            return NOT_SO;
        }
        weighCases(j, n, true);
        turns.solve(now.pebbles, true);
        return what == 0 ? turns.total() : turns.chosen(0, now.pebbles);
    }

    // ---- told circuits

    public int reversed(int s, int j) {
        int refusal = refusalOf(s, j);
        if (refusal != 0) {
            return refusal;
        }
        think();
        return firstOtherwise(s, j);
    }

    public int kinds(int s, int j, int p, int sort) {
        int refusal = refusalOf(s, j);
        if (refusal != 0) {
            return refusal;
        }
        if (!now.hasPebble(p)) {
            return NO_PEBBLE;
        }
        if (!within(sort, 1)) {
            return NOT_SO;
        }
        int[] row = sort == 0 ? thought.kind : thought.more;
        int last = sort == 0 ? LAST_KIND : MOST_MORE;
        int bits = 0;
        for (int v = 0; v <= last; v++) {
            think();
            row[p] = v;
            if (firstOtherwise(s, j) == NONE) {
                bits |= 1 << v;
            }
        }
        return bits;
    }

    public int soled(int s, int j) {
        int refusal = refusalOf(s, j);
        if (refusal != 0) {
            return refusal;
        }
        int bits = 0;
        for (int v = 0; v <= THICKEST; v++) {
            think();
            thought.soles[j] = v;
            if (firstOtherwise(s, j) == NONE) {
                bits |= 1 << v;
            }
        }
        return bits;
    }

    public int sizes(int s, int j, int p, int sortWhat) {
        int refusal = refusalOf(s, j);
        if (refusal != 0) {
            return refusal;
        }
        if (!now.hasPebble(p)) {
            return NO_PEBBLE;
        }
        if (!isPairOfBits(sortWhat)) {
            return NOT_SO;
        }
        int[] row = sortWhat / 10 == 0 ? thought.size : thought.round;
        int found = 0;
        int least = NONE;
        for (int v = MOST_SIZE; v >= 0; v--) {
            think();
            row[p] = v;
            if (firstOtherwise(s, j) == NONE) {
                found++;
                least = v;
            }
        }
        return sortWhat % 10 == 0 ? found : least;
    }

    public int whose(int s) {
        int refusal = refusalOfSheet(s);
        if (refusal != 0) {
            return refusal;
        }
        int bits = 0;
        for (int j = 0; j < now.judges; j++) {
            think();
            if (firstOtherwise(s, j) == NONE) {
                bits |= 1 << j;
            }
        }
        return bits;
    }

    public int laws(int s, int j) {
        int refusal = refusalOf(s, j);
        if (refusal != 0) {
            return refusal;
        }
        int bits = 0;
        for (int t = 0; t < texts.number; t++) {
            think();
            thought.law = t;
            if (firstOtherwise(s, j) == NONE) {
                bits |= 1 << t;
            }
        }
        return bits;
    }

    public int film(int s, int j, int n) {
        if (!rows.isSheet(s)) {
            return BAD;
        }
        if (!now.hasJudge(j)) {
            return NO_SUCH;
        }
        if (!within(n, MOST_MILES)) {
            return NOT_SO;
        }
        think();
        rows.become(s, BYTES, 3 * now.pebbles);
        int found = 0;
        for (int p = 0; p < now.pebbles; p++) {
            int guilty = thought.verdict(j, p, thought.go(j, p, n));
            rows.store(s, 3 * p, p);
            rows.store(s, 3 * p + 1, n);
            rows.store(s, 3 * p + 2, guilty);
            found += guilty;
        }
        return found;
    }

    // ---- wear by lots

    public int drawn(int seed, int j, int p, int moreMiles, int what) {
        if (!now.hasBoth(j, p)) {
            return NO_SUCH;
        }
        if (!within(seed, LAST_SEED) || !isMoreMiles(moreMiles) || !within(what, 2)) {
            return NOT_SO;
        }
        think();
        int felt = thought.goByLots(seed, j, p, moreMiles);
        return outcome(j, p, felt, what);
    }

    public long odds(int seed, int seeds, int j, int p, int moreMiles, int part) {
        if (!within(seed, LAST_SEED) || seeds < 1 || seeds > MOST_SEEDS || !within(part, 1)) {
            return NO;
        }
        if (!now.hasBoth(j, p) || !isMoreMiles(moreMiles)) {
            return NO;
        }
        int guilty = 0;
        for (int i = 0; i < seeds; i++) {
            think();
            guilty += thought.verdict(j, p, thought.goByLots(seed + i, j, p, moreMiles));
        }
        return (part == 0 ? guilty : seeds) / commonDivisor(guilty, seeds);
    }

    public int image() {
        kept.become(now);
        hasImage = true;
        return now.pebbles;
    }

    public int back() {
        if (!hasImage) {
            return STATE;
        }
        now.become(kept);
        return now.pebbles;
    }

    // ---- the host

    public int sheet(int s, int sort, int n) {
        if (!rows.isSheet(s) || sort < NO_SORT || sort > INTS) {
            return BAD;
        }
        if (sort == NO_SORT) {
            rows.become(s, NO_SORT, 0);
            return 1;
        }
        if (n > ROW_SIZE) {
            return BAD;
        }
        if (n < 0) {
            return BELOW_ZERO;
        }
        rows.become(s, sort, n);
        return 1;
    }

    public int cell(int s, int i, int v) {
        if (!rows.isSheet(s)) {
            return BAD;
        }
        if (rows.sorts[s] == NO_SORT) {
            return MISSING;
        }
        if (i < 0 || i >= rows.lengths[s]) {
            return OUTSIDE;
        }
        rows.store(s, i, v);
        return 1;
    }

    public int copy(int s, int i, int other, int j, int n) {
        if (!rows.isSheet(s) || !rows.isSheet(other)) {
            return BAD;
        }
        if (rows.sorts[s] == NO_SORT || rows.sorts[other] == NO_SORT) {
            return MISSING;
        }
        if (rows.sorts[s] != rows.sorts[other]) {
            return ANOTHER;
        }
        if (!rows.holds(s, i, n) || !rows.holds(other, j, n)) {
            return OUTSIDE;
        }
        System.arraycopy(rows.numbers[s], i, rows.numbers[other], j, n);
        return n;
    }

    public int pebblesBy(int s, int sort, int at, int n) {
        if (!rows.isSheet(s) || !within(sort, INTS) || !within(n, MOST_PEBBLES)) {
            return BAD;
        }
        if (rows.sorts[s] == NO_SORT) {
            return MISSING;
        }
        if (rows.sorts[s] != sort) {
            return ANOTHER;
        }
        int came = 0;
        for (int k = 0; k < n; k++) {
            int place = at + 2 * k;
            if (!rows.holds(s, place, 2)) {
                return OUTSIDE;
            }
            if (pebble(rows.numbers[s][place], rows.numbers[s][place + 1]) >= 0) {
                came++;
            }
        }
        return came;
    }

    public long taken(int i, int kind) {
        if (!within(kind, JUDGE)) {
            return BAD;
        }
        if (!within(i, MOST_PEBBLES + MOST_JUDGES - 1)) {
            return OUTSIDE;
        }
        if (i >= MOST_PEBBLES) {
            int j = i - MOST_PEBBLES;
            if (!now.hasJudge(j)) {
                return MISSING;
            }
            return kind == JUDGE ? now.pains[j] : ANOTHER;
        }
        if (!now.hasPebble(i)) {
            return MISSING;
        }
        return isOfKind(now.kind[i], kind) ? i : ANOTHER;
    }

    // ---- what several calls need

    private static boolean within(int v, int most) {
        return v >= 0 && v <= most;
    }

    private static boolean isByte(int v) {
        return within(v, 255);
    }

    /** Two digits, each 0 or 1. */
    private static boolean isPairOfBits(int v) {
        return within(v, 11) && v % 10 <= 1;
    }

    private static boolean isMoreMiles(int v) {
        return within(v, 100 * MOST_LOT + MOST_MILES) && v % 100 <= MOST_MILES;
    }

    private static boolean isOfKind(int kind, int asked) {
        return kind == asked || asked == PEBBLE
            || kind == SHARD && asked == FLINT || kind == PEARL && asked == SHELL;
    }

    /** One of the two may be 0, not both: then the other one is the answer, and it is never 0. */
    private static int commonDivisor(int a, int b) {
        int x = a;
        int y = b;
        for (int i = 0; i < 64 && y != 0; i++) {
            int rest = x % y;
            x = y;
            y = rest;
        }
        return Math.max(1, x);
    }

    private static int leastBit(long bits) {
        for (int n = 0; n <= MOST_MILES; n++) {
            if ((bits >> n & 1L) == 1L) {
                return n;
            }
        }
        return NONE;
    }

    /** From here on the thought goes its own way; what is now stays. */
    private void think() {
        thought.become(now);
    }

    private int outcome(int j, int p, int felt, int what) {
        switch (what) {
            case 0: return felt;
            case 1: return thought.size[p];
            default: return thought.verdict(j, p, felt);
        }
    }

    /** Bit n: whether the CASE of n MILES is GUILTY. */
    private long guiltyBits(int j, int p) {
        think();
        long bits = 0L;
        int felt = 0;
        for (int n = 0; n <= MOST_MILES; n++) {
            bits |= (long) thought.verdict(j, p, felt) << n;
            felt += thought.mile(j, p, 0);
        }
        return bits;
    }

    private int guiltyOfAll(int j, int n) {
        int guilty = 0;
        for (int p = 0; p < now.pebbles; p++) {
            think();
            guilty += thought.verdict(j, p, thought.go(j, p, n));
        }
        return guilty;
    }

    /**
     * What each CASE weighs at each turn. Ahead of a turn the JUDGE has walked the same MILES in
     * whichever order, and no PEBBLE wears by another one's CASE: so a turn and a PEBBLE are enough.
     */
    private void weighCases(int j, int n, boolean byGuilt) {
        for (int turn = 0; turn < now.pebbles; turn++) {
            for (int p = 0; p < now.pebbles; p++) {
                think();
                for (int i = 0; i < turn * n; i++) {
                    thought.tread(j);
                }
                int felt = thought.go(j, p, n);
                turns.weights[turn][p] = byGuilt ? thought.verdict(j, p, felt) : felt;
            }
        }
    }

    /** 0: the SHEET tells CASES. */
    private int refusalOfSheet(int s) {
        if (!rows.isSheet(s)) {
            return BAD;
        }
        if (rows.sorts[s] == NO_SORT) {
            return MISSING;
        }
        int length = rows.lengths[s];
        if (length % 3 != 0) {
            return BAD;
        }
        int[] row = rows.numbers[s];
        for (int i = 0; i + 2 < length; i += 3) {
            if (!now.hasPebble(row[i]) || !within(row[i + 1], MOST_MILES) || !within(row[i + 2], 1)) {
                return BAD;
            }
        }
        return 0;
    }

    private int refusalOf(int s, int j) {
        int refusal = refusalOfSheet(s);
        if (refusal != 0) {
            return refusal;
        }
        return now.hasJudge(j) ? 0 : NO_SUCH;
    }

    /** As the thought is now, for a SHEET that isn't refused: the CASE found otherwise, or NONE. */
    private int firstOtherwise(int s, int j) {
        int[] row = rows.numbers[s];
        for (int i = 0; i + 2 < rows.lengths[s]; i += 3) {
            int felt = thought.go(j, row[i], row[i + 1]);
            if (thought.verdict(j, row[i], felt) != row[i + 2]) {
                return i / 3;
            }
        }
        return NONE;
    }

    /** JUDGES, PEBBLES and THE LAW as they are, or as they are thought to be, or as AN IMAGE keeps them. */
    private static final class Court {
        private static final long FACTOR = 48271L, MODULUS = 2147483647L;

        private final Texts texts;
        private final int[] names = new int[Reader.NAMES];
        final int[] soles = new int[MOST_JUDGES];
        final int[] miles = new int[MOST_JUDGES];
        final int[] pains = new int[MOST_JUDGES];
        final int[] kind = new int[MOST_PEBBLES];
        final int[] more = new int[MOST_PEBBLES];
        final int[] size = new int[MOST_PEBBLES];
        final int[] round = new int[MOST_PEBBLES];
        int judges;
        int pebbles;
        int law;

        Court(Texts texts) {
            this.texts = texts;
        }

        void become(Court other) {
            System.arraycopy(other.soles, 0, soles, 0, MOST_JUDGES);
            System.arraycopy(other.miles, 0, miles, 0, MOST_JUDGES);
            System.arraycopy(other.pains, 0, pains, 0, MOST_JUDGES);
            System.arraycopy(other.kind, 0, kind, 0, MOST_PEBBLES);
            System.arraycopy(other.more, 0, more, 0, MOST_PEBBLES);
            System.arraycopy(other.size, 0, size, 0, MOST_PEBBLES);
            System.arraycopy(other.round, 0, round, 0, MOST_PEBBLES);
            judges = other.judges;
            pebbles = other.pebbles;
            law = other.law;
        }

        boolean hasJudge(int j) {
            return j >= 0 && j < judges;
        }

        boolean hasPebble(int p) {
            return p >= 0 && p < pebbles;
        }

        boolean hasBoth(int j, int p) {
            return hasJudge(j) && hasPebble(p);
        }

        int addJudge(int thick) {
            if (judges >= MOST_JUDGES) {
                return FULL;
            }
            int j = judges;
            soles[j] = thick;
            miles[j] = 0;
            pains[j] = 0;
            judges++;
            return j;
        }

        int addPebble(int kindMore, int sizeRound) {
            if (pebbles >= MOST_PEBBLES) {
                return FULL;
            }
            int p = pebbles;
            kind[p] = kindMore / 10;
            more[p] = kindMore % 10;
            size[p] = sizeRound / 100;
            round[p] = sizeRound % 100;
            pebbles++;
            return p;
        }

        /** What THE LAW says, within the bounds of that part. */
        int says(int part, int j, int p) {
            names[0] = size[p];
            names[1] = round[p];
            names[2] = soles[j];
            names[3] = miles[j];
            names[4] = more[p];
            names[5] = j;
            int most = part == FEELS ? 99 : part == WEARS ? 20 : 9999;
            return Math.max(0, Math.min(most, texts.value(law, part, names)));
        }

        boolean isSand(int p) {
            switch (kind[p]) {
                case SHELL:
                case PEARL: return size[p] <= more[p];
                case GRIT: return size[p] < 5;
                default: return size[p] == 0;
            }
        }

        private int hurts(int said, int j, int p) {
            int plain = said - soles[j];
            int flint = plain + more[p];
            switch (kind[p]) {
                case FLINT: return Math.max(0, flint);
                case SHARD: return Math.max(0, soles[j] < 5 ? 2 * flint : flint);
                case PEARL: return Math.max(0, plain / 2);
                case GRIT: return Math.max(0, said - soles[j] * more[p] / 4);
                default: return Math.max(0, plain);
            }
        }

        private int wears(int said, int p) {
            switch (kind[p]) {
                case SHELL: return 2 * said;
                case SHARD: return said / 2;
                case PEARL: return said <= 5 ? 0 : 2 * said;
                default: return said;
            }
        }

        void tread(int j) {
            miles[j]++;
            if (miles[j] % 10 == 0) {
                soles[j] = Math.min(THICKEST, soles[j] + 1);
            }
        }

        /** A MILE that wears so much more than told: what is FELT. */
        int mile(int j, int p, int wornMore) {
            int felt = 0;
            if (!isSand(p)) {
                // both are told ahead: what wears must not see what was worn
                felt = hurts(says(FEELS, j, p), j, p);
                int worn = wears(says(WEARS, j, p), p) + wornMore;
                pains[j] = Math.min(MOST_PAIN, pains[j] + felt);
                size[p] = Math.max(0, size[p] - worn);
            }
            tread(j);
            return felt;
        }

        /** A CASE: what is FELT. */
        int go(int j, int p, int n) {
            int felt = 0;
            for (int i = 0; i < n; i++) {
                felt += mile(j, p, 0);
            }
            return felt;
        }

        /** A CASE by a SEED: what is FELT. */
        int goByLots(int seed, int j, int p, int moreMiles) {
            int ways = moreMiles / 100 + 1;
            int felt = 0;
            long lot = seed + 1L;
            for (int i = 0; i < moreMiles % 100; i++) {
                lot = lot * FACTOR % MODULUS;
                felt += mile(j, p, (int) (lot % ways));
            }
            return felt;
        }

        /** 1: GUILTY, behind a CASE in which so much was FELT. */
        int verdict(int j, int p, int felt) {
            return felt >= says(BARS, j, p) ? 1 : 0;
        }
    }

    /** The TEXTS, each as three runs of codes: operands, and operators behind what they work on. */
    private static final class Texts {
        static final int FIRST_NAME = 10000, FIRST_OPERATOR = 20000;
        // six levels of brackets with five operands waiting in each, and one
        private static final int STACK_SIZE = 32;

        private final int[][] codes = new int[MOST_TEXTS][TAPE_SIZE];
        private final int[][] ends = new int[MOST_TEXTS][3];
        private final int[] stack = new int[STACK_SIZE];
        private int written;
        int number;

        /** The TEXT that comes next is written anew. */
        void begin() {
            written = 0;
        }

        void write(int code) {
            if (number < MOST_TEXTS && written < TAPE_SIZE) {
                codes[number][written] = code;
                written++;
            }
        }

        void endPart(int part) {
            if (number < MOST_TEXTS) {
                ends[number][part] = written;
            }
        }

        /** What was written is a TEXT: its number. */
        int keep() {
            int t = number;
            if (number < MOST_TEXTS) {
                number++;
            }
            return t;
        }

        int value(int t, int part, int[] names) {
            if (t < 0 || t >= number) {
                return 0;
            }
            int from = part == FEELS ? 0 : ends[t][part - 1];
            int top = 0;
            for (int i = from; i < ends[t][part]; i++) {
                int code = codes[t][i];
                int operator = code - FIRST_OPERATOR;
                if (operator < 0) {
                    if (top < STACK_SIZE) {
                        stack[top] = code < FIRST_NAME ? code : names[code - FIRST_NAME];
                        top++;
                    }
                } else if (operator == Reader.NOT || operator == Reader.MINUS) {
                    if (top >= 1) {
                        stack[top - 1] = one(operator, stack[top - 1]);
                    }
                } else if (top >= 2) {
                    stack[top - 2] = two(operator, stack[top - 2], stack[top - 1]);
                    top--;
                }
            }
            return stack[0];
        }

        private static int one(int operator, int a) {
            if (operator == Reader.MINUS) {
                return -a;
            }
            return a == 0 ? 1 : 0;
        }

        private static int two(int operator, int a, int b) {
            switch (operator) {
                case '+': return a + b;
                case '-': return a - b;
                case '*': return a * b;
                case '<': return a < b ? 1 : 0;
                case '=': return a == b ? 1 : 0;
                case Reader.AND: return a != 0 && b != 0 ? 1 : 0;
                default: return a != 0 || b != 0 ? 1 : 0;
            }
        }
    }

    /** THE TAPE, and how a TEXT is read from it. Wherever reading stops, the TOKEN there is the FAULT. */
    private static final class Reader {
        static final int NAMES = 6;
        // TOKENS are these, or a sign's own byte; MINUS is only an operator: a - ahead of a ONE
        static final int OR = 103, AND = 104, NOT = 105, MINUS = 106;
        private static final int END = 0, BROKEN = 1, NUMBER = 2, NAME = 3, FIRST_KEY = 100;
        private static final int KEYS = 6, MOST_DIGITS = 4, MOST_OPEN = 5;
        private static final String SIGNS = "();+-*<=";

        private final Texts texts;
        private final int[] bytes = new int[TAPE_SIZE];
        private int at;
        private int token;
        private int place;
        private int meaning;
        int length;

        Reader(Texts texts) {
            this.texts = texts;
        }

        void add(int b) {
            if (length < TAPE_SIZE) {
                bytes[length] = b;
                length++;
            }
        }

        /** THE TAPE is a TEXT: its number, or told by its FAULT; it is empty then. */
        int read() {
            at = 0;
            texts.begin();
            boolean stands = readParts();
            length = 0;
            return stands ? texts.keep() : FAULT - place;
        }

        private boolean readParts() {
            next();
            for (int part = FEELS; part <= BARS; part++) {
                if (token != FIRST_KEY + part) {
                    return false;
                }
                next();
                if (!readOr(0) || token != ';') {
                    return false;
                }
                texts.endPart(part);
                next();
            }
            return token == END;
        }

        private boolean readOr(int open) {
            if (!readAnd(open)) {
                return false;
            }
            for (int i = 0; i < TAPE_SIZE && token == OR; i++) {
                next();
                if (!readAnd(open)) {
                    return false;
                }
                texts.write(Texts.FIRST_OPERATOR + OR);
            }
            return true;
        }

        private boolean readAnd(int open) {
            if (!readNot(open)) {
                return false;
            }
            for (int i = 0; i < TAPE_SIZE && token == AND; i++) {
                next();
                if (!readNot(open)) {
                    return false;
                }
                texts.write(Texts.FIRST_OPERATOR + AND);
            }
            return true;
        }

        private boolean readNot(int open) {
            if (token == NOT) {
                if (open >= MOST_OPEN) {
                    return false;
                }
                next();
                if (!readNot(open + 1)) {
                    return false;
                }
                texts.write(Texts.FIRST_OPERATOR + NOT);
                return true;
            }
            if (!readSum(open)) {
                return false;
            }
            if (token != '<' && token != '=') {
                return true;
            }
            int operator = token;
            next();
            if (!readSum(open)) {
                return false;
            }
            texts.write(Texts.FIRST_OPERATOR + operator);
            return true;
        }

        private boolean readSum(int open) {
            if (!readTerm(open)) {
                return false;
            }
            for (int i = 0; i < TAPE_SIZE && (token == '+' || token == '-'); i++) {
                int operator = token;
                next();
                if (!readTerm(open)) {
                    return false;
                }
                texts.write(Texts.FIRST_OPERATOR + operator);
            }
            return true;
        }

        private boolean readTerm(int open) {
            if (!readOne(open)) {
                return false;
            }
            for (int i = 0; i < TAPE_SIZE && token == '*'; i++) {
                next();
                if (!readOne(open)) {
                    return false;
                }
                texts.write(Texts.FIRST_OPERATOR + '*');
            }
            return true;
        }

        private boolean readOne(int open) {
            if (token == NUMBER || token == NAME) {
                texts.write(token == NUMBER ? meaning : Texts.FIRST_NAME + meaning);
                next();
                return true;
            }
            if (token != '-' && token != '(' || open >= MOST_OPEN) {
                return false;
            }
            if (token == '-') {
                next();
                if (!readOne(open + 1)) {
                    return false;
                }
                texts.write(Texts.FIRST_OPERATOR + MINUS);
                return true;
            }
            next();
            if (!readOr(open + 1) || token != ')') {
                return false;
            }
            next();
            return true;
        }

        /** On to the TOKEN behind this one. */
        private void next() {
            while (at < length && (bytes[at] == ' ' || bytes[at] == '\n')) {
                at++;
            }
            place = at;
            if (at >= length) {
                token = END;
            } else if (isLetter(at)) {
                nextWord();
            } else if (isDigit(at)) {
                nextNumber();
            } else {
                token = SIGNS.indexOf((char) bytes[at]) >= 0 ? bytes[at] : BROKEN;
                at++;
            }
        }

        private void nextWord() {
            while (at < length && isLetter(at)) {
                at++;
            }
            token = BROKEN;
            for (int k = 0; k < KEYS + NAMES; k++) {
                if (isSpelled(word(k))) {
                    token = k < KEYS ? FIRST_KEY + k : NAME;
                    meaning = k - KEYS;
                }
            }
        }

        private void nextNumber() {
            meaning = 0;
            while (at < length && isDigit(at)) {
                meaning = 10 * meaning + (bytes[at] - '0');
                at++;
            }
            token = at - place > MOST_DIGITS ? BROKEN : NUMBER;
        }

        private boolean isLetter(int i) {
            return bytes[i] >= 'a' && bytes[i] <= 'z';
        }

        private boolean isDigit(int i) {
            return bytes[i] >= '0' && bytes[i] <= '9';
        }

        /** Whether the bytes from the TOKEN's place to here are that word. */
        private boolean isSpelled(String word) {
            if (at - place != word.length()) {
                return false;
            }
            for (int i = 0; i < word.length(); i++) {
                if (bytes[place + i] != word.charAt(i)) {
                    return false;
                }
            }
            return true;
        }

        /** The KEYS by their TOKENS, then the NAMES as a Court tells them. */
        private static String word(int k) {
            switch (k) {
                case 0: return "feels";
                case 1: return "wears";
                case 2: return "bars";
                case 3: return "or";
                case 4: return "and";
                case 5: return "not";
                case 6: return "size";
                case 7: return "round";
                case 8: return "soles";
                case 9: return "miles";
                case 10: return "more";
                default: return "judge";
            }
        }
    }

    /** The SHEETS. Their rows are made once and used again. */
    private static final class Sheets {
        final int[][] numbers = new int[SHEETS][ROW_SIZE];
        final int[] sorts = new int[SHEETS];
        final int[] lengths = new int[SHEETS];

        Sheets() {
            Arrays.fill(sorts, NO_SORT);
        }

        boolean isSheet(int s) {
            return within(s, SHEETS - 1);
        }

        void become(int s, int sort, int n) {
            sorts[s] = sort;
            lengths[s] = n;
            Arrays.fill(numbers[s], 0);
        }

        void store(int s, int i, int v) {
            numbers[s][i] = sorts[s] == BYTES ? (byte) v : sorts[s] == SHORTS ? (short) v : v;
        }

        boolean holds(int s, int from, int n) {
            return n >= 0 && from >= 0 && from <= lengths[s] - n;
        }
    }

    /** PEBBLES chosen one behind the other: best for one who wants least, or for two by turns. */
    private static final class Turns {
        /** By turn and PEBBLE. */
        final int[][] weights = new int[MOST_PEBBLES][MOST_PEBBLES];
        /** By the set of the PEBBLES that were chosen: what the others come to. */
        private final int[] rest = new int[1 << MOST_PEBBLES];

        void solve(int pebbles, boolean byTurns) {
            int all = (1 << pebbles) - 1;
            rest[all] = 0;
            for (int set = all - 1; set >= 0; set--) {
                int turn = Integer.bitCount(set);
                boolean wantsMost = byTurns && turn % 2 == 0;
                boolean isFirst = true;
                int best = 0;
                for (int p = 0; p < pebbles; p++) {
                    if ((set >> p & 1) == 0) {
                        int sum = weights[turn][p] + rest[set | 1 << p];
                        if (isFirst || (wantsMost ? sum > best : sum < best)) {
                            best = sum;
                        }
                        isFirst = false;
                    }
                }
                rest[set] = best;
            }
        }

        int total() {
            return rest[0];
        }

        /** The PEBBLE that is chosen behind such a set, of like ones the first. */
        int chosen(int set, int pebbles) {
            int turn = Integer.bitCount(set);
            for (int p = 0; p < pebbles; p++) {
                if ((set >> p & 1) == 0 && weights[turn][p] + rest[set | 1 << p] == rest[set]) {
                    return p;
                }
            }
            return NONE;
        }

        /** The order from the first PEBBLE on, a digit each. */
        int digits(int pebbles) {
            int set = 0;
            int digits = 0;
            for (int turn = 0; turn < pebbles; turn++) {
                int p = chosen(set, pebbles);
                if (p < 0) {
                    return NONE;
                }
                digits = 10 * digits + p + 1;
                set |= 1 << p;
            }
            return pebbles == 0 ? NONE : digits;
        }
    }
}
