import java.util.Arrays;

/** A town whose locks turn only for the second person of the day; ../shared/DOC.md tells all of it. */
public final class KeysForSecond {
    public static final int NONE = -1, BAD = -2, STATE = -3, FULL = -4;
    public static final long NO = -4611686018427387904L;

    private static final int NO_SUCH = -5, UNFIT = -7, MUTE = -1000, FAULTY = -100;
    private static final int MISSING = -11, OUTSIDE = -12, UNLIKE = -13, BELOW_NOTHING = -14;

    private static final int DOORS = 8, MOST_PEOPLE = 6, MOST_TEXTS = 6, KINDS = 6, MORES = 10;
    private static final int MOST_EGGS = 99, MOST_SAID = 99, MOST_CAME = 99;
    private static final int LAST_MINUTE = 9999, DAY = 20;
    private static final int LONG_RUN = 60, SHORT_RUN = 40, MOST_TOLD = 20;
    private static final int SHEETS = 4, MOST_CELLS = 40, BYTES = 0, SHORTS = 1, INTS = 2;
    private static final int MOST_BYTES = 160, MOST_OPEN = 5, MOST_DIGITS = 4;
    private static final int LAST_SEED = 99999, MOST_SEEDS = 40, TRIES_OF_ODDS = 16;

    private static final int CITIZEN = 0, EARLY = 1, DOCTOR = 2, BANKER = 3, BURGLAR = 4, RUDE = 5, A_DOOR = 6;
    private static final int HAND_FIRST = 0, HAND_AGAIN = 1, CAME_IN = 2;
    private static final int TO_TRY = 0, TO_PAY = 1, TO_GO = 2, PARTS = 3;

    // A token that is a sign is its byte; these stand beside the bytes.
    private static final int END = -1, BROKEN = -2, NUMBER = 300, OPPOSITE = 301;
    private static final int TRIES = 256, PAYS = 257, GOES = 258, OR = 259, AND = 260, NOT = 261;
    private static final int DOOR = 262, EGGS = 263, MINUTE = 264, TRIED = 265, CAME = 266, MORE = 267;
    private static final int NAMES = 6;

    // How tightly the signs between two sides bind, the loosest first.
    private static final int RANK_OR = 0, RANK_AND = 1, RANK_LIKE = 2, RANK_SUM = 3, RANK_TIMES = 4, RANK_ONE = 5;

    private final Text[] texts = new Text[MOST_TEXTS];
    private final Sheet[] sheets = new Sheet[SHEETS];
    private final Tape tape = new Tape();
    private final Grammar grammar = new Grammar(tape);
    private final Town now = new Town(texts);
    private final Town thought = new Town(texts);
    private final Town kept = new Town(texts);
    private int textsThere = 1;
    private boolean imageThere = false;

    public KeysForSecond() {
        for (int t = 0; t < MOST_TEXTS; t++) {
            texts[t] = new Text();
        }
        for (int s = 0; s < SHEETS; s++) {
            sheets[s] = new Sheet();
        }
        texts[0].becomePlain(1, 2, 1);
    }

    // ---- the town, the law, people

    public int count(int what) {
        switch (what) {
            case 0: return now.people;
            case 1: return now.clock;
            case 2: return Integer.bitCount(now.doorsWithSecond());
            case 3: return textsThere;
            case 4: return now.law;
            case 5: return tape.size;
            default: return BAD;
        }
    }

    public int town(int what, int d, int v) {
        if (!within(what, 0, 2) || (what != 0 && !isDoor(d))) {
            return NO_SUCH;
        }
        if (what == 0) {
            return within(v, 0, LAST_MINUTE) ? now.setClock(v) : UNFIT;
        }
        if (what == 1) {
            return within(v, 0, MOST_EGGS) ? swapped(now.behind, d, v) : UNFIT;
        }
        return v == NONE || isPerson(v) ? swapped(now.first, d, v) : UNFIT;
    }

    public int door(int d, int what) {
        if (!isDoor(d)) {
            return NO_SUCH;
        }
        switch (what) {
            case 0: return now.first[d];
            case 1: return now.second[d];
            case 2: return now.behind[d];
            case 3: return now.peopleAt(d);
            default: return UNFIT;
        }
    }

    public int feed(int n, int a, int b, int c, int d, int e) {
        boolean bytes = isByte(a) && isByte(b) && isByte(c) && isByte(d) && isByte(e);
        if (!within(n, 1, 5) || !bytes) {
            return BAD;
        }
        if (tape.size + n > MOST_BYTES) {
            return FULL;
        }
        for (int i = 0; i < n; i++) {
            tape.add(i == 0 ? a : i == 1 ? b : i == 2 ? c : i == 3 ? d : e);
        }
        return tape.size;
    }

    public int text() {
        if (textsThere < 0 || textsThere >= MOST_TEXTS) {
            return FULL;
        }
        int fault = grammar.read(texts[textsThere]);
        tape.size = 0;
        if (fault != NONE) {
            return FAULTY - fault;
        }
        textsThere++;
        return textsThere - 1;
    }

    public int force(int t) {
        if (!within(t, 0, textsThere - 1)) {
            return BAD;
        }
        int was = now.law;
        now.law = t;
        return was;
    }

    public int asks(int part, int p) {
        return within(part, 0, PARTS - 1) && isPerson(p) ? now.says(part, p) : MUTE;
    }

    public int citizen(int kindMore, int doorEggs) {
        return now.welcome(kindMore, doorEggs);
    }

    public int put(int p, int what, int v) {
        if (!isPerson(p)) {
            return NO_SUCH;
        }
        if (what == 0 && isDoor(v)) {
            return swapped(now.at, p, v);
        }
        if (what == 1 && within(v, 0, MOST_EGGS)) {
            return swapped(now.eggs, p, v);
        }
        return UNFIT;
    }

    public int told(int p, int what) {
        if (!isPerson(p)) {
            return NO_SUCH;
        }
        switch (what) {
            case 0: return now.at[p];
            case 1: return now.eggs[p];
            case 2: return now.came[p];
            case 3: return now.kind[p];
            case 4: return now.more[p];
            case 5: return now.wouldTry(p) ? 1 : 0;
            case 6: return now.wouldPay(p);
            case 7: return now.wouldGo(p) + 10;
            case 8: return now.outcome(p, now.at[p]);
            default: return UNFIT;
        }
    }

    // ---- tries, minutes

    public int twist(int p) {
        return isPerson(p) ? now.attempt(p, now.at[p]) : NO_SUCH;
    }

    public int give(int p, int q, int much) {
        if (!isPerson(p) || !isPerson(q) || p == q) {
            return NO_SUCH;
        }
        if (!within(much, 0, MOST_EGGS)) {
            return UNFIT;
        }
        if (now.eggs[p] < much || MOST_EGGS - now.eggs[q] < much) {
            return STATE;
        }
        now.eggs[p] -= much;
        now.eggs[q] += much;
        return now.eggs[q];
    }

    public int minute() {
        return now.clock >= LAST_MINUTE ? STATE : now.pass();
    }

    public int run(int n, int what) {
        boolean ofTown = within(what, 0, 2);
        int p = Math.floorMod(what, 10);
        boolean ofOne = within(what, 10, 39) && isPerson(p);
        if (!within(n, 0, LONG_RUN) || !(ofTown || ofOne)) {
            return BAD;
        }
        thought.become(now);
        passThought(n);
        if (ofTown) {
            return what == 0 ? thought.doorsWithSecond() : what == 1 ? thought.doorsWithFirst() : thought.allBehind();
        }
        return what < 20 ? thought.at[p] : what < 30 ? thought.eggs[p] : thought.came[p];
    }

    public int when(int what) {
        if (!within(what, 0, 9)) {
            return UNFIT;
        }
        thought.become(now);
        for (int n = 0; n <= LONG_RUN; n++) {
            if (thought.isSo(what)) {
                return n;
            }
            thought.pass();
        }
        return NONE;
    }

    public int waits(int p) {
        if (!isPerson(p)) {
            return NO_SUCH;
        }
        thought.become(now);
        for (int n = 1; n <= LONG_RUN; n++) {
            if (hasBit(thought.pass(), p)) {
                return n;
            }
        }
        return NONE;
    }

    // ---- what is best

    public int pair(int what) {
        if (!within(what, 0, 1)) {
            return BAD;
        }
        int best = NONE;
        int most = NONE;
        for (int p = 0; p < now.people; p++) {
            for (int q = 0; q < now.people; q++) {
                for (int d = 0; d < DOORS; d++) {
                    int eggs = p == q ? NONE : eggsOfSecond(p, q, d);
                    if (eggs > most) {
                        most = eggs;
                        best = 100 * p + 10 * q + d;
                    }
                }
            }
        }
        return what == 0 ? best : most;
    }

    private int eggsOfSecond(int p, int q, int d) {
        thought.become(now);
        thought.attempt(p, d);
        thought.attempt(q, d);
        return thought.eggs[q];
    }

    public int stand(int p, int n, int what) {
        if (!isPerson(p)) {
            return NO_SUCH;
        }
        if (!within(n, 0, SHORT_RUN) || !within(what, 0, 1)) {
            return UNFIT;
        }
        int best = NONE;
        int most = NONE;
        for (int d = 0; d < DOORS; d++) {
            thought.become(now);
            thought.at[p] = d;
            passThought(n);
            if (thought.eggs[p] > most) {
                most = thought.eggs[p];
                best = d;
            }
        }
        return what == 0 ? best : most;
    }

    public int rounds(int n, int what) {
        if (!within(n, 0, SHORT_RUN) || !within(what, 0, 1)) {
            return BAD;
        }
        thought.become(now);
        passThought(n);
        int best = NONE;
        int most = Integer.bitCount(thought.doorsWithSecond());
        for (int p = 0; p < now.people; p++) {
            thought.become(now);
            for (int d = 0; d < DOORS; d++) {
                thought.attempt(p, d);
            }
            passThought(n);
            int opened = Integer.bitCount(thought.doorsWithSecond());
            if (opened > most) {
                most = opened;
                best = p;
            }
        }
        return what == 0 ? best : most;
    }

    public int tries(int what) {
        if (!within(what, 0, 1)) {
            return BAD;
        }
        int without = DOORS - Integer.bitCount(now.doorsWithSecond());
        if (what == 1) {
            return without;
        }
        if (without > 0 && now.people < 2) {
            return NONE;
        }
        int few = 0;
        for (int d = 0; d < DOORS; d++) {
            if (now.second[d] == NONE) {
                few += now.first[d] == NONE ? 2 : 1;
            }
        }
        return few;
    }

    public long share(int p, int part) {
        int all = now.allEggs() + now.allBehind();
        if (!isPerson(p) || !within(part, 0, 1) || all == 0) {
            return NO;
        }
        return lowest(now.eggs[p], all, part);
    }

    // ---- told minutes

    public int judge(int s, int p) {
        int refusal = refusalOfTold(s, p);
        if (refusal != 0) {
            return refusal;
        }
        thought.become(now);
        return otherwise(sheets[s], p);
    }

    public int kinds(int s, int p, int sort) {
        int refusal = refusalOfTold(s, p);
        if (refusal != 0) {
            return refusal;
        }
        if (!within(sort, 0, 1)) {
            return UNFIT;
        }
        int bits = 0;
        for (int v = 0; v < (sort == 0 ? KINDS : MORES); v++) {
            thought.become(now);
            if (sort == 0) {
                thought.kind[p] = v;
            } else {
                thought.more[p] = v;
            }
            bits |= otherwise(sheets[s], p) == NONE ? 1 << v : 0;
        }
        return bits;
    }

    public int doors(int s, int p) {
        int refusal = refusalOfTold(s, p);
        if (refusal != 0) {
            return refusal;
        }
        int bits = 0;
        for (int d = 0; d < DOORS; d++) {
            thought.become(now);
            thought.at[p] = d;
            bits |= otherwise(sheets[s], p) == NONE ? 1 << d : 0;
        }
        return bits;
    }

    public int baskets(int s, int p, int what) {
        int refusal = refusalOfTold(s, p);
        if (refusal != 0) {
            return refusal;
        }
        if (!within(what, 0, 1)) {
            return UNFIT;
        }
        int many = 0;
        int least = NONE;
        for (int eggs = MOST_EGGS; eggs >= 0; eggs--) {
            thought.become(now);
            thought.eggs[p] = eggs;
            if (otherwise(sheets[s], p) == NONE) {
                many++;
                least = eggs;
            }
        }
        return what == 0 ? many : least;
    }

    public int firsts(int s, int p, int d) {
        int refusal = refusalOfTold(s, p);
        if (refusal != 0) {
            return refusal;
        }
        if (!isDoor(d)) {
            return UNFIT;
        }
        int bits = 0;
        for (int q = 0; q <= MOST_PEOPLE; q++) {
            if (q == MOST_PEOPLE || isPerson(q)) {
                thought.become(now);
                thought.first[d] = q == MOST_PEOPLE ? NONE : q;
                bits |= otherwise(sheets[s], p) == NONE ? 1 << q : 0;
            }
        }
        return bits;
    }

    public int whose(int s) {
        int refusal = refusalOfSheet(s);
        if (refusal != 0) {
            return refusal;
        }
        int bits = 0;
        for (int p = 0; p < now.people; p++) {
            thought.become(now);
            bits |= otherwise(sheets[s], p) == NONE ? 1 << p : 0;
        }
        return bits;
    }

    public int laws(int s, int p) {
        int refusal = refusalOfTold(s, p);
        if (refusal != 0) {
            return refusal;
        }
        int bits = 0;
        for (int t = 0; t < textsThere; t++) {
            thought.become(now);
            thought.law = t;
            bits |= otherwise(sheets[s], p) == NONE ? 1 << t : 0;
        }
        return bits;
    }

    public int film(int s, int p, int n) {
        if (!isSheet(s)) {
            return BAD;
        }
        if (!isPerson(p)) {
            return NO_SUCH;
        }
        if (!within(n, 0, MOST_TOLD)) {
            return UNFIT;
        }
        sheets[s].become(BYTES, n);
        thought.become(now);
        for (int i = 0; i < n; i++) {
            thought.pass();
            sheets[s].write(i, thought.eggs[p]);
        }
        return n;
    }

    private int refusalOfSheet(int s) {
        if (!isSheet(s)) {
            return BAD;
        }
        if (sheets[s].sort == NONE) {
            return MISSING;
        }
        return sheets[s].size > MOST_TOLD ? BAD : 0;
    }

    private int refusalOfTold(int s, int p) {
        int refusal = refusalOfSheet(s);
        return refusal != 0 || isPerson(p) ? refusal : NO_SUCH;
    }

    /** Lets the thought go on from where it stands: the first number told that is otherwise. */
    private int otherwise(Sheet sheet, int p) {
        for (int i = 0; i < sheet.size; i++) {
            thought.pass();
            if (thought.eggs[p] != sheet.cells[i]) {
                return i;
            }
        }
        return NONE;
    }

    // ---- days by lots

    public int drawn(int seed, int n, int what) {
        if (!within(seed, 0, LAST_SEED) || !within(n, 0, LONG_RUN) || !within(what, 0, 1)) {
            return BAD;
        }
        int cameIn = thinkByLots(seed, n);
        return what == 0 ? thought.doorsWithSecond() : cameIn;
    }

    public long odds(int seed, int seeds, int least, int part) {
        boolean fit = within(seed, 0, LAST_SEED) && within(seeds, 1, MOST_SEEDS);
        if (!fit || !within(least, 0, DOORS) || !within(part, 0, 1)) {
            return NO;
        }
        int good = 0;
        for (int i = 0; i < seeds; i++) {
            thinkByLots(seed + i, TRIES_OF_ODDS);
            if (Integer.bitCount(thought.doorsWithSecond()) >= least) {
                good++;
            }
        }
        return lowest(good, seeds, part);
    }

    public int image() {
        kept.become(now);
        imageThere = true;
        return now.people;
    }

    public int back() {
        if (!imageThere) {
            return STATE;
        }
        now.become(kept);
        return now.people;
    }

    /** How many of the n tries came in. */
    private int thinkByLots(int seed, int n) {
        thought.become(now);
        int cameIn = 0;
        long lot = seed + 1;
        for (int i = 0; i < n; i++) {
            lot = nextLot(lot);
            int p = (int) (lot % MOST_PEOPLE);
            lot = nextLot(lot);
            int d = (int) (lot % DOORS);
            if (isPerson(p) && thought.attempt(p, d) == CAME_IN) {
                cameIn++;
            }
        }
        return cameIn;
    }

    private static long nextLot(long lot) {
        return lot * 48271L % 2147483647L;
    }

    // ---- the host

    public int sheet(int s, int sort, int n) {
        if (!isSheet(s) || !within(sort, NONE, INTS)) {
            return BAD;
        }
        if (sort == NONE) {
            sheets[s].become(NONE, 0);
            return 1;
        }
        if (n > MOST_CELLS) {
            return BAD;
        }
        if (n < 0) {
            return BELOW_NOTHING;
        }
        sheets[s].become(sort, n);
        return 1;
    }

    public int cell(int s, int i, int v) {
        if (!isSheet(s)) {
            return BAD;
        }
        if (sheets[s].sort == NONE) {
            return MISSING;
        }
        if (!sheets[s].has(i)) {
            return OUTSIDE;
        }
        sheets[s].write(i, v);
        return 1;
    }

    public int copy(int s, int i, int other, int j, int n) {
        if (!isSheet(s) || !isSheet(other)) {
            return BAD;
        }
        Sheet from = sheets[s];
        Sheet to = sheets[other];
        if (from.sort == NONE || to.sort == NONE) {
            return MISSING;
        }
        if (from.sort != to.sort) {
            return UNLIKE;
        }
        if (!from.hasRow(i, n) || !to.hasRow(j, n)) {
            return OUTSIDE;
        }
        System.arraycopy(from.cells, i, to.cells, j, n);
        return n;
    }

    public int peopleBy(int s, int sort, int from, int n) {
        if (!isSheet(s) || !within(sort, BYTES, INTS) || !within(n, 0, MOST_PEOPLE)) {
            return BAD;
        }
        Sheet sheet = sheets[s];
        if (sheet.sort == NONE) {
            return MISSING;
        }
        if (sheet.sort != sort) {
            return UNLIKE;
        }
        int cameThere = 0;
        for (int k = 0; k < n; k++) {
            int i = from + 2 * k;
            if (!sheet.hasRow(i, 2)) {
                return OUTSIDE;
            }
            if (now.welcome(sheet.cells[i], sheet.cells[i + 1]) >= 0) {
                cameThere++;
            }
        }
        return cameThere;
    }

    public int taken(int i, int kind) {
        if (!within(kind, CITIZEN, A_DOOR)) {
            return BAD;
        }
        if (!within(i, 0, MOST_PEOPLE + DOORS - 1)) {
            return OUTSIDE;
        }
        if (i >= MOST_PEOPLE) {
            return kind == A_DOOR ? now.behind[i - MOST_PEOPLE] : UNLIKE;
        }
        if (!isPerson(i)) {
            return MISSING;
        }
        return isOneOf(now.kind[i], kind) ? i : UNLIKE;
    }

    private static boolean isOneOf(int kind, int wider) {
        switch (wider) {
            case CITIZEN: return true;
            case EARLY: return kind == EARLY || kind == BANKER;
            case DOCTOR: return kind == DOCTOR || kind == BURGLAR;
            default: return kind == wider;
        }
    }

    // ---- what many calls need

    private void passThought(int n) {
        for (int i = 0; i < n; i++) {
            thought.pass();
        }
    }

    private boolean isPerson(int p) {
        return p >= 0 && p < now.people;
    }

    private static boolean isDoor(int d) {
        return d >= 0 && d < DOORS;
    }

    private static boolean isSheet(int s) {
        return s >= 0 && s < SHEETS;
    }

    private static boolean isByte(int v) {
        return v >= 0 && v <= 255;
    }

    private static boolean within(int v, int least, int most) {
        return v >= least && v <= most;
    }

    private static boolean hasBit(int bits, int bit) {
        return (bits >> bit & 1) != 0;
    }

    private static int swapped(int[] row, int i, int v) {
        if (i < 0 || i >= row.length) {
            return NONE;
        }
        int was = row[i];
        row[i] = v;
        return was;
    }

    /** A part of above / below (not 0) in lowest terms. */
    private static long lowest(int above, int below, int part) {
        int big = below;
        int small = above;
        // Numbers below 2000 need far fewer turns than this.
        for (int turn = 0; turn < 100 && small != 0; turn++) {
            int rest = big % small;
            big = small;
            small = rest;
        }
        if (big == 0) {
            return NO;
        }
        return part == 0 ? above / big : below / big;
    }

    /** All that an image keeps and a thought may change: one town is as it is, others are in thought or kept. */
    private static final class Town {
        final Text[] texts;
        final int[] behind = new int[DOORS];
        final int[] first = new int[DOORS];
        final int[] second = new int[DOORS];
        final int[] at = new int[MOST_PEOPLE];
        final int[] eggs = new int[MOST_PEOPLE];
        final int[] came = new int[MOST_PEOPLE];
        final int[] kind = new int[MOST_PEOPLE];
        final int[] more = new int[MOST_PEOPLE];
        final int[] names = new int[NAMES];
        int people = 0;
        int clock = 0;
        int law = 0;

        Town(Text[] texts) {
            this.texts = texts;
            Arrays.fill(behind, 10);
            Arrays.fill(first, NONE);
            Arrays.fill(second, NONE);
        }

        void become(Town other) {
            System.arraycopy(other.behind, 0, behind, 0, DOORS);
            System.arraycopy(other.first, 0, first, 0, DOORS);
            System.arraycopy(other.second, 0, second, 0, DOORS);
            System.arraycopy(other.at, 0, at, 0, MOST_PEOPLE);
            System.arraycopy(other.eggs, 0, eggs, 0, MOST_PEOPLE);
            System.arraycopy(other.came, 0, came, 0, MOST_PEOPLE);
            System.arraycopy(other.kind, 0, kind, 0, MOST_PEOPLE);
            System.arraycopy(other.more, 0, more, 0, MOST_PEOPLE);
            people = other.people;
            clock = other.clock;
            law = other.law;
        }

        int setClock(int v) {
            int was = clock;
            clock = v;
            return was;
        }

        int welcome(int kindMore, int doorEggs) {
            if (!within(kindMore, 0, 10 * KINDS - 1) || !within(doorEggs, 0, 100 * DOORS - 1)) {
                return BAD;
            }
            if (people < 0 || people >= MOST_PEOPLE) {
                return FULL;
            }
            int p = people;
            kind[p] = kindMore / 10;
            more[p] = kindMore % 10;
            at[p] = doorEggs / 100;
            eggs[p] = doorEggs % 100;
            came[p] = 0;
            people++;
            return p;
        }

        /** What the law says of one, within its bounds. */
        int says(int part, int p) {
            names[DOOR - DOOR] = at[p];
            names[EGGS - DOOR] = eggs[p];
            names[MINUTE - DOOR] = clock % DAY;
            names[TRIED - DOOR] = first[at[p]] == NONE ? 0 : 1;
            names[CAME - DOOR] = came[p];
            names[MORE - DOOR] = more[p];
            int least = part == TO_GO ? -MOST_SAID : 0;
            return Math.max(least, Math.min(MOST_SAID, texts[law].worth(part, names)));
        }

        boolean wouldTry(int p) {
            boolean untried = first[at[p]] == NONE;
            switch (kind[p]) {
                case EARLY: return untried || says(TO_TRY, p) != 0;
                case DOCTOR: return !untried && says(TO_TRY, p) != 0;
                case BANKER: return untried;
                case BURGLAR: return clock % 2 == 0 ? !untried && says(TO_TRY, p) != 0 : untried;
                default: return says(TO_TRY, p) != 0;
            }
        }

        int wouldPay(int p) {
            switch (kind[p]) {
                case DOCTOR: return says(TO_PAY, p) + more[p];
                case BURGLAR: return 0;
                case RUDE: return says(TO_PAY, p) / 2;
                default: return says(TO_PAY, p);
            }
        }

        int wouldGo(int p) {
            switch (kind[p]) {
                case EARLY: return 1;
                case BANKER: return clock % DAY < more[p] ? 1 : -1;
                case RUDE: return 0;
                default: return Math.max(-1, Math.min(1, says(TO_GO, p)));
            }
        }

        int outcome(int p, int d) {
            return first[d] == NONE ? HAND_FIRST : first[d] == p ? HAND_AGAIN : CAME_IN;
        }

        int attempt(int p, int d) {
            int what = outcome(p, d);
            if (what == CAME_IN) {
                int host = first[d];
                int paid = Math.min(wouldPay(p), Math.min(eggs[p], MOST_EGGS - eggs[host]));
                eggs[p] -= paid;
                eggs[host] += paid;
                int found = Math.min(behind[d], MOST_EGGS - eggs[p]);
                eggs[p] += found;
                behind[d] -= found;
                came[p] = Math.min(MOST_CAME, came[p] + 1);
                second[d] = p;
            }
            first[d] = p;
            return what;
        }

        /** A minute: who came in (bits). */
        int pass() {
            int cameIn = 0;
            for (int p = 0; p < people; p++) {
                if (wouldTry(p) && attempt(p, at[p]) == CAME_IN) {
                    cameIn |= 1 << p;
                }
                at[p] = Math.floorMod(at[p] + wouldGo(p), DOORS);
            }
            clock++;
            if (clock % DAY == 0) {
                Arrays.fill(first, NONE);
                Arrays.fill(second, NONE);
            }
            return cameIn;
        }

        /** What 0 .. 7: that door has a second; 8: all have one; 9: nobody is alone. */
        boolean isSo(int what) {
            if (what == DOORS) {
                return doorsWithSecond() == (1 << DOORS) - 1;
            }
            if (what > DOORS) {
                return !anyoneAlone();
            }
            return hasBit(doorsWithSecond(), what);
        }

        boolean anyoneAlone() {
            for (int d = 0; d < DOORS; d++) {
                if (Integer.bitCount(peopleAt(d)) == 1) {
                    return true;
                }
            }
            return false;
        }

        int peopleAt(int d) {
            int bits = 0;
            for (int p = 0; p < people; p++) {
                bits |= at[p] == d ? 1 << p : 0;
            }
            return bits;
        }

        int doorsWithFirst() {
            return bitsOfTaken(first);
        }

        int doorsWithSecond() {
            return bitsOfTaken(second);
        }

        private static int bitsOfTaken(int[] row) {
            int bits = 0;
            for (int d = 0; d < row.length; d++) {
                bits |= row[d] == NONE ? 0 : 1 << d;
            }
            return bits;
        }

        int allBehind() {
            int sum = 0;
            for (int d = 0; d < DOORS; d++) {
                sum += behind[d];
            }
            return sum;
        }

        int allEggs() {
            int sum = 0;
            for (int p = 0; p < people; p++) {
                sum += eggs[p];
            }
            return sum;
        }
    }

    /** A text as steps for a stack: a number is itself, all else is 0 less its token. */
    private static final class Text {
        final int[] steps = new int[MOST_BYTES];
        final int[] ends = new int[PARTS];
        // Five ranks may each keep a left side waiting, in each of six nestings, beside the one at work.
        final int[] stack = new int[RANK_ONE * (MOST_OPEN + 1) + 1];
        int size = 0;

        void becomePlain(int tries, int pays, int goes) {
            size = 0;
            add(tries);
            endPart(TO_TRY);
            add(pays);
            endPart(TO_PAY);
            add(goes);
            endPart(TO_GO);
        }

        void add(int step) {
            if (size < steps.length) {
                steps[size] = step;
                size++;
            }
        }

        void endPart(int part) {
            if (part >= 0 && part < ends.length) {
                ends[part] = size;
            }
        }

        int worth(int part, int[] names) {
            int top = -1;
            for (int i = part == TO_TRY ? 0 : ends[part - 1]; i < ends[part]; i++) {
                int step = steps[i];
                if (step >= 0 || isName(-step)) {
                    if (top + 1 < stack.length) {
                        top++;
                        stack[top] = step >= 0 ? step : names[-step - DOOR];
                    }
                } else if (step == -OPPOSITE || step == -NOT) {
                    if (top >= 0) {
                        stack[top] = step == -OPPOSITE ? -stack[top] : stack[top] == 0 ? 1 : 0;
                    }
                } else if (top >= 1) {
                    top--;
                    stack[top] = joined(-step, stack[top], stack[top + 1]);
                }
            }
            return top >= 0 ? stack[top] : 0;
        }

        private static boolean isName(int token) {
            return token >= DOOR && token < DOOR + NAMES;
        }

        private static int joined(int token, int left, int right) {
            switch (token) {
                case OR: return left != 0 || right != 0 ? 1 : 0;
                case AND: return left != 0 && right != 0 ? 1 : 0;
                case '<': return left < right ? 1 : 0;
                case '=': return left == right ? 1 : 0;
                case '+': return left + right;
                case '-': return left - right;
                default: return left * right;
            }
        }
    }

    /** The tape's bytes, and the token at which a reading of them stands. */
    private static final class Tape {
        final int[] bytes = new int[MOST_BYTES];
        int size = 0;
        int next = 0;
        int place = 0;
        int token = END;
        int number = 0;

        void add(int v) {
            if (size < bytes.length) {
                bytes[size] = v;
                size++;
            }
        }

        void rewind() {
            next = 0;
            advance();
        }

        void advance() {
            while (next < size && (bytes[next] == ' ' || bytes[next] == '\n')) {
                next++;
            }
            place = next;
            if (next >= size) {
                token = END;
            } else if (isLetter(bytes[next])) {
                readWord();
            } else if (isDigit(bytes[next])) {
                readNumber();
            } else {
                token = isSign(bytes[next]) ? bytes[next] : BROKEN;
                next++;
            }
        }

        private void readWord() {
            while (next < size && isLetter(bytes[next])) {
                next++;
            }
            token = spells("tries") ? TRIES : spells("pays") ? PAYS : spells("goes") ? GOES
                : spells("or") ? OR : spells("and") ? AND : spells("not") ? NOT
                : spells("door") ? DOOR : spells("eggs") ? EGGS : spells("minute") ? MINUTE
                : spells("tried") ? TRIED : spells("came") ? CAME : spells("more") ? MORE : BROKEN;
        }

        private boolean spells(String word) {
            if (next - place != word.length()) {
                return false;
            }
            for (int i = 0; i < word.length(); i++) {
                if (bytes[place + i] != word.charAt(i)) {
                    return false;
                }
            }
            return true;
        }

        private void readNumber() {
            number = 0;
            while (next < size && isDigit(bytes[next])) {
                number = 10 * number + bytes[next] - '0';
                next++;
            }
            token = next - place <= MOST_DIGITS ? NUMBER : BROKEN;
        }

        private static boolean isLetter(int v) {
            return v >= 'a' && v <= 'z';
        }

        private static boolean isDigit(int v) {
            return v >= '0' && v <= '9';
        }

        private static boolean isSign(int v) {
            return v == '(' || v == ')' || v == ';' || v == '+' || v == '-' || v == '*' || v == '<' || v == '=';
        }
    }

    /** Reads the tape by the document's grammar into the steps of a text. */
    private static final class Grammar {
        final Tape tape;
        int fault = NONE;

        Grammar(Tape tape) {
            this.tape = tape;
        }

        /** The place of the fault, or NONE. */
        int read(Text text) {
            fault = NONE;
            text.size = 0;
            tape.rewind();
            for (int part = 0; part < PARTS; part++) {
                expect(TRIES + part);
                side(text, RANK_OR, 0);
                expect(';');
                text.endPart(part);
            }
            expect(END);
            return fault;
        }

        private void expect(int token) {
            if (tape.token != token) {
                refuse();
            } else {
                tape.advance();
            }
        }

        /** A broken token fits nowhere, so nothing behind the first fault is read. */
        private void refuse() {
            if (fault == NONE) {
                fault = tape.place;
            }
            tape.token = BROKEN;
        }

        /** All that binds at this rank or tighter, while so many nestings are open. */
        private void side(Text text, int rank, int open) {
            if (rank == RANK_LIKE && tape.token == NOT) {
                if (open >= MOST_OPEN) {
                    refuse();
                    return;
                }
                tape.advance();
                side(text, RANK_LIKE, open + 1);
                text.add(-NOT);
                return;
            }
            if (rank >= RANK_ONE) {
                one(text, open);
                return;
            }
            side(text, rank + 1, open);
            int most = rank == RANK_LIKE ? 1 : MOST_BYTES;
            for (int i = 0; i < most && rankOf(tape.token) == rank; i++) {
                int sign = tape.token;
                tape.advance();
                side(text, rank + 1, open);
                text.add(-sign);
            }
        }

        private void one(Text text, int open) {
            int token = tape.token;
            int number = tape.number;
            boolean opening = token == '-' || token == '(';
            if (token != NUMBER && !Text.isName(token) && !(opening && open < MOST_OPEN)) {
                refuse();
                return;
            }
            tape.advance();
            if (token == '-') {
                one(text, open + 1);
                text.add(-OPPOSITE);
            } else if (token == '(') {
                side(text, RANK_OR, open + 1);
                if (tape.token == ')') {
                    tape.advance();
                } else {
                    refuse();
                }
            } else {
                text.add(token == NUMBER ? number : -token);
            }
        }

        private static int rankOf(int token) {
            switch (token) {
                case OR: return RANK_OR;
                case AND: return RANK_AND;
                case '<':
                case '=': return RANK_LIKE;
                case '+':
                case '-': return RANK_SUM;
                case '*': return RANK_TIMES;
                default: return NONE;
            }
        }
    }

    /** A row of numbers, or missing (sort NONE); its cells are made once and used again. */
    private static final class Sheet {
        final int[] cells = new int[MOST_CELLS];
        int sort = NONE;
        int size = 0;

        void become(int newSort, int newSize) {
            sort = newSort;
            size = newSize;
            Arrays.fill(cells, 0);
        }

        boolean has(int i) {
            return i >= 0 && i < size;
        }

        boolean hasRow(int i, int n) {
            return i >= 0 && n >= 0 && i <= size && n <= size - i;
        }

        void write(int i, int v) {
            if (i >= 0 && i < cells.length) {
                cells[i] = sort == BYTES ? (byte) v : sort == SHORTS ? (short) v : v;
            }
        }
    }
}
