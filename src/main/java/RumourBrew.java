import java.util.Arrays;

/**
 * A brewery of rumours: a town of drinkers is told in a text, casks of sayings are brewed, tapped, watered and
 * blended there, and what a tap would do can be foretold. Refusals and findings are answers, never exceptions.
 */
public final class RumourBrew {
    public static final int NONE = -1000000, BAD = -1000001, STATE = -1000002, FULL = -1000003;

    private static final int FINDING = -1000010;
    private static final int MISSING_ROW = 1, NO_PLACE = 2, WRONG_KIND = 3, BELOW_SIZE = 4, TWO_LANES = 5;
    private static final int FAULT_PLACE = -1000100;

    private static final int ROWS = 8, LANES = 3, ITEMS = 40;
    private static final int TAPE = 120;
    private static final int DRINKERS = 6, TIES = 10, CASKS = 4, ACTS = 24, IMAGES = 2;
    private static final int MOST_OAK = 20, MOST_KEEPS = 40, MOST_EXCISE = 9, MOST_DOUBT = 12;
    private static final int MOST_MALT = 20, LAST_DAY = 999, DAYS_AT_ONCE = 24;
    private static final int MOST_TAPS = 6, LONGEST_WEEK = 60, LAST_SEED = 999999, TENTHS = 10;
    private static final int PLAIN = 1, GOSSIP = 2, WIFE = 3, BOY = 4, RAT = 5;

    private final Rows rows = new Rows();
    private final Reader reader = new Reader();
    private final Town town = new Town();
    private final Town townRead = new Town();
    private final Town[] images = {new Town(), new Town()};
    private final Acts acts = new Acts();
    private final Telling saying = new Telling(town);
    private final Foretelling foretelling = new Foretelling(town, saying);
    private final Asking asking = new Asking(town);
    private int latestFinding = 0;

    /** No TOWN, no ROWS, an empty tape. */
    public RumourBrew() {
    }

    // ---- rows

    public int row(int row, int lane, int n) {
        if (!isRow(row) || lane < 0 || lane >= LANES || n > ITEMS) {
            return BAD;
        }
        if (n < 0) {
            return found(BELOW_SIZE);
        }
        rows.make(row, lane, n);
        return fine(n);
    }

    public int set(int row, int i, int v) {
        if (!isRow(row)) {
            return BAD;
        }
        if (rows.isMissing(row)) {
            return found(MISSING_ROW);
        }
        if (!rows.holds(row, i, 1)) {
            return found(NO_PLACE);
        }
        return fine(rows.put(row, i, v));
    }

    public int copy(int a, int i, int b, int j, int n) {
        if (!isRow(a) || !isRow(b)) {
            return BAD;
        }
        if (rows.isMissing(a) || rows.isMissing(b)) {
            return found(MISSING_ROW);
        }
        if (rows.lanes[a] != rows.lanes[b]) {
            return found(TWO_LANES);
        }
        if (!rows.holds(a, i, n) || !rows.holds(b, j, n)) {
            return found(NO_PLACE);
        }
        System.arraycopy(rows.items[a], i, rows.items[b], j, n);
        return fine(n);
    }

    public int drop(int row) {
        if (!isRow(row)) {
            return BAD;
        }
        if (rows.isMissing(row)) {
            return found(MISSING_ROW);
        }
        return fine(rows.lose(row));
    }

    // ---- what is told

    public int feed(int letter) {
        if (letter < 0 || letter > 255) {
            return BAD;
        }
        if (reader.length >= TAPE) {
            return FULL;
        }
        return reader.append(letter);
    }

    public int town() {
        boolean isRead = reader.reads(townRead);
        reader.length = 0;
        if (!isRead) {
            return FAULT_PLACE - reader.at;
        }
        town.become(townRead);
        acts.forget();
        return town.drinkers;
    }

    public int fault() {
        return reader.latestFault;
    }

    public int undo() {
        if (acts.kept == 0) {
            return STATE;
        }
        acts.takeBack(town.cellar);
        return acts.kept;
    }

    // ---- what is done

    public int brew(int whom, int malt) {
        if (!isDrinker(whom) || malt < 0 || malt > MOST_MALT) {
            return BAD;
        }
        int cask = town.cellar.leastMissing();
        if (cask == NONE) {
            return FULL;
        }
        acts.keep(town.cellar);
        town.cellar.fill(cask, whom, malt);
        return cask;
    }

    public int days(int n) {
        if (!isTownThere()) {
            return STATE;
        }
        if (n < 1 || n > DAYS_AT_ONCE) {
            return BAD;
        }
        if (town.cellar.today() + n > LAST_DAY) {
            return FULL;
        }
        for (int k = 0; k < n; k++) {
            acts.keep(town.cellar);
            town.cellar.passDay();
        }
        return town.casksOff();
    }

    public int tap(int cask, int drinker) {
        if (!isCask(cask) || !isDrinker(drinker)) {
            return BAD;
        }
        if (town.cellar.isMissing(cask)) {
            return STATE;
        }
        acts.keep(town.cellar);
        return saying.tapIn(town.cellar, cask, drinker);
    }

    public int water(int cask) {
        if (!isCask(cask)) {
            return BAD;
        }
        if (town.cellar.isMissing(cask)) {
            return STATE;
        }
        acts.keep(town.cellar);
        int malt = town.cellar.maltOf(cask) / 2;
        town.cellar.setMalt(cask, malt);
        return malt;
    }

    public int blend(int cask, int into) {
        if (!isCask(cask) || !isCask(into) || cask == into) {
            return BAD;
        }
        if (town.cellar.isMissing(cask) || town.cellar.isMissing(into)) {
            return STATE;
        }
        acts.keep(town.cellar);
        int malt = town.cellar.maltOfBoth(cask, into);
        town.cellar.setMalt(into, malt);
        town.cellar.lose(cask);
        return malt;
    }

    public int cask(int cask, int what) {
        if (!isCask(cask) || what < 0 || what > 4) {
            return BAD;
        }
        if (town.cellar.isMissing(cask)) {
            return NONE;
        }
        switch (what) {
            case 0:
                return town.cellar.whomOf(cask);
            case 1:
                return town.cellar.maltOf(cask);
            case 2:
                return town.cellar.ageOf(cask);
            case 3:
                return town.strongOf(cask);
            default:
                return town.isOff(town.cellar.ageOf(cask)) ? 1 : 0;
        }
    }

    public int drinker(int drinker, int what) {
        if (!isDrinker(drinker) || what < 0 || what > 2) {
            return BAD;
        }
        switch (what) {
            case 0:
                return town.doubts[drinker];
            case 1:
                return town.dislikes[drinker];
            default:
                return town.hearersOf(drinker);
        }
    }

    public int rumour(int whom) {
        return isDrinker(whom) ? town.cellar.notesOf(whom) : BAD;
    }

    // ---- foretold

    public int telling(int cask, int some, int what) {
        if (!isCask(cask) || some == 0 || !areDrinkers(some) || what < 0 || what > 3) {
            return BAD;
        }
        if (town.cellar.isMissing(cask)) {
            return STATE;
        }
        saying.beAsTold();
        saying.spreadCask(cask, some);
        switch (what) {
            case 0:
                return saying.believers;
            case 1:
                return saying.reached;
            case 2:
                return saying.steps;
            default:
                return town.excise * Integer.bitCount(saying.reached);
        }
    }

    public int fewest(int cask, int to, int not, int what) {
        if (!isCask(cask) || !areDrinkers(to) || !areDrinkers(not) || (to & not) != 0 || !isFirstOrSecond(what)) {
            return BAD;
        }
        if (town.cellar.isMissing(cask)) {
            return STATE;
        }
        return countOrSet(foretelling.fewestTold(cask, to, not), what);
    }

    public int silence(int cask, int from, int other, int what) {
        if (!isCask(cask) || !areTwoDrinkers(from, other) || !isFirstOrSecond(what)) {
            return BAD;
        }
        if (town.cellar.isMissing(cask)) {
            return STATE;
        }
        return countOrSet(foretelling.fewestWithout(cask, from, other), what);
    }

    public int malts(int cask, int row, int i, int n) {
        if (!isCask(cask) || !isRow(row) || n < 1 || n > MOST_TAPS) {
            return BAD;
        }
        int refusal = refusalOfTaps(cask, row, i, n);
        return refusal != 0 ? refusal : fine(foretelling.fittingMalts(cask, rows.items[row], i, n));
    }

    public int who(int drinker, int cask, int row, int i, int n) {
        if (!isDrinker(drinker) || !isCask(cask) || !isRow(row) || n < 1 || n > MOST_TAPS) {
            return BAD;
        }
        int refusal = refusalOfTaps(cask, row, i, n);
        return refusal != 0 ? refusal : fine(foretelling.fittingKinds(drinker, cask, rows.items[row], i, n));
    }

    public int goesOff(int cask, int what) {
        if (!isCask(cask) || !isFirstOrSecond(what)) {
            return BAD;
        }
        if (town.cellar.isMissing(cask)) {
            return STATE;
        }
        int due = what == 0 ? town.keeps + 1 : town.oak;
        return Math.max(0, due - town.cellar.ageOf(cask));
    }

    public int best(int cask, int what) {
        if (!isCask(cask) || !isFirstOrSecond(what)) {
            return BAD;
        }
        if (town.cellar.isMissing(cask)) {
            return STATE;
        }
        int drinker = foretelling.bestTap(cask);
        return what == 0 ? drinker : foretelling.believersAt(cask, drinker);
    }

    public int blended(int cask, int into, int drinker) {
        if (!isCask(cask) || !isCask(into) || cask == into || !isDrinker(drinker)) {
            return BAD;
        }
        if (town.cellar.isMissing(cask) || town.cellar.isMissing(into)) {
            return STATE;
        }
        return foretelling.believersOfBlend(cask, into, drinker);
    }

    public long silent(int cask, int from, int other, int p, int what) {
        if (!isCask(cask) || !areTwoDrinkers(from, other) || p < 0 || p > TENTHS || !isFirstOrSecond(what)) {
            return BAD;
        }
        if (town.cellar.isMissing(cask)) {
            return STATE;
        }
        long above = foretelling.casesOfBelief(cask, from, other, p);
        long below = power(TENTHS, town.ties);
        return (what == 0 ? above : below) / commonDivisor(above, below);
    }

    public int drawn(int n, int seed, int what) {
        if (!isTownThere()) {
            return STATE;
        }
        if (n < 0 || n > LONGEST_WEEK || seed < 1 || seed > LAST_SEED || !isFirstOrSecond(what)) {
            return BAD;
        }
        Cellar then = foretelling.cellarAfterWeek(n, seed);
        return what == 0 ? then.allNotes() : then.allMalt();
    }

    public int image(int k) {
        if (k < 0 || k >= IMAGES) {
            return BAD;
        }
        if (!isTownThere()) {
            return STATE;
        }
        images[k].become(town);
        return 1;
    }

    public int restore(int k) {
        if (k < 0 || k >= IMAGES) {
            return BAD;
        }
        if (images[k].drinkers == 0) {
            return STATE;
        }
        town.become(images[k]);
        acts.forget();
        return 1;
    }

    // ---- asked

    public int kind(int one) {
        return isDrinker(one) ? town.kinds[one] : BAD;
    }

    public int as(int one, int kind) {
        if (!isDrinker(one) || kind < 0 || kind > RAT) {
            return BAD;
        }
        return isKindOf(town.kinds[one], kind) ? fine(one) : found(WRONG_KIND);
    }

    public int ask(int one, int what) {
        if (!isDrinker(one) || !isFirstOrSecond(what)) {
            return BAD;
        }
        return what == 0 ? asking.sizeOf(one) : asking.markOf(one);
    }

    public int trace(int i) {
        return asking.traced(i);
    }

    public int count(int what) {
        switch (what) {
            case 0:
                return rows.howMany();
            case 1:
                return town.drinkers;
            case 2:
                return town.ties;
            case 3:
                return town.cellar.howMany();
            case 4:
                return town.cellar.today();
            case 5:
                return town.cellar.allNotes();
            case 6:
                return acts.kept;
            case 7:
                return reader.length;
            default:
                return BAD;
        }
    }

    public int status() {
        return latestFinding;
    }

    private int found(int finding) {
        latestFinding = finding;
        return FINDING - finding;
    }

    private int fine(int answer) {
        latestFinding = 0;
        return answer;
    }

    private boolean isTownThere() {
        return town.drinkers > 0;
    }

    private boolean isDrinker(int one) {
        return one >= 0 && one < town.drinkers;
    }

    private boolean areTwoDrinkers(int one, int other) {
        return isDrinker(one) && isDrinker(other) && one != other;
    }

    private boolean areDrinkers(int some) {
        return (some & ~town.everybody()) == 0;
    }

    /** 0, if a ROW tells n taps of a cask that is there. */
    private int refusalOfTaps(int cask, int row, int i, int n) {
        if (town.cellar.isMissing(cask)) {
            return STATE;
        }
        if (rows.isMissing(row)) {
            return found(MISSING_ROW);
        }
        if (!rows.holds(row, i, 2 * n)) {
            return found(NO_PLACE);
        }
        return tellsDrinkers(row, i, n) ? 0 : BAD;
    }

    private boolean tellsDrinkers(int row, int i, int n) {
        for (int k = 0; k < n; k++) {
            if (!isDrinker(rows.items[row][i + 2 * k])) {
                return false;
            }
        }
        return true;
    }

    private static boolean isRow(int row) {
        return row >= 0 && row < ROWS;
    }

    private static boolean isCask(int cask) {
        return cask >= 0 && cask < CASKS;
    }

    private static boolean isFirstOrSecond(int what) {
        return what == 0 || what == 1;
    }

    private static boolean isKindOf(int own, int asked) {
        if (asked == 0 || asked == own) {
            return true;
        }
        return asked == PLAIN ? own == GOSSIP || own == WIFE : asked == BOY && own == RAT;
    }

    private static int countOrSet(int set, int what) {
        return set == NONE || what == 1 ? set : Integer.bitCount(set);
    }

    private static long power(long base, int exponent) {
        long product = 1;
        for (int k = 0; k < exponent; k++) {
            product *= base;
        }
        return product;
    }

    /** At least 1, so that it can divide; Euclid needs far fewer than 100 rounds for a long. */
    private static long commonDivisor(long a, long b) {
        long x = a;
        long y = b;
        for (int k = 0; k < 100 && y != 0; k++) {
            long rest = x % y;
            x = y;
            y = rest;
        }
        return Math.max(1, x);
    }

    /** ROWS 0 .. 7; one that is missing has a size below 0. */
    private static final class Rows {
        private static final int MISSING = -1;
        private final int[][] items = new int[ROWS][ITEMS];
        private final int[] lanes = new int[ROWS];
        private final int[] sizes = {MISSING, MISSING, MISSING, MISSING, MISSING, MISSING, MISSING, MISSING};

        boolean isMissing(int row) {
            return sizes[row] == MISSING;
        }

        /** Compared by a difference, since i + n could wrap around. */
        boolean holds(int row, int i, int n) {
            return i >= 0 && n >= 0 && n <= sizes[row] && i <= sizes[row] - n;
        }

        void make(int row, int lane, int n) {
            lanes[row] = lane;
            sizes[row] = n;
            Arrays.fill(items[row], 0);
        }

        int put(int row, int i, int v) {
            int cut = v;
            if (lanes[row] == 0) {
                cut = (byte) v;
            } else if (lanes[row] == 1) {
                cut = (short) v;
            }
            items[row][i] = cut;
            return cut;
        }

        int lose(int row) {
            int had = sizes[row];
            sizes[row] = MISSING;
            return had;
        }

        int howMany() {
            int there = 0;
            for (int size : sizes) {
                if (size != MISSING) {
                    there++;
                }
            }
            return there;
        }
    }

    /** THE TAPE, and how a TOWN is read from it; behind a FAULT, at is its place. */
    private static final class Reader {
        private static final int CANNOT_STAND = 1, NOT_AS_TOLD = 2, NO_ROOM = 3;
        private static final int WRONG = -1;
        private final int[] tape = new int[TAPE];
        private int length = 0;
        private int at = 0;
        private int latestFault = 0;

        int append(int letter) {
            tape[length] = letter;
            length++;
            return length;
        }

        boolean reads(Town town) {
            town.empty();
            at = 0;
            if (!readsLaw(town) || !readsDrinker(town)) {
                return false;
            }
            for (int k = 0; k < TAPE && sortOf(letter()) != WRONG; k++) {
                if (!readsDrinker(town)) {
                    return false;
                }
            }
            for (int k = 0; k < TAPE && at < length; k++) {
                if (!readsTie(town)) {
                    return false;
                }
            }
            return true;
        }

        private boolean readsLaw(Town town) {
            if (!passes('o')) {
                return false;
            }
            town.oak = number(0, MOST_OAK);
            if (town.oak == WRONG || !passes(',')) {
                return false;
            }
            town.keeps = number(1, MOST_KEEPS);
            if (town.keeps == WRONG || !passes(',')) {
                return false;
            }
            town.excise = number(0, MOST_EXCISE);
            return town.excise != WRONG && passes(';');
        }

        private boolean readsDrinker(Town town) {
            int kind = sortOf(letter());
            if (kind == WRONG) {
                return fails(CANNOT_STAND);
            }
            if (town.drinkers >= DRINKERS) {
                return fails(NO_ROOM);
            }
            at++;
            int doubt = number(0, MOST_DOUBT);
            if (doubt == WRONG || !passes(',')) {
                return false;
            }
            int disliked = number(0, DRINKERS - 1);
            if (disliked == WRONG || !passes(';')) {
                return false;
            }
            town.addDrinker(kind, doubt, disliked);
            return true;
        }

        private boolean readsTie(Town town) {
            if (letter() == 't' && town.ties >= TIES) {
                return fails(NO_ROOM);
            }
            if (!passes('t')) {
                return false;
            }
            int teller = number(0, town.drinkers - 1);
            if (teller == WRONG || !passes(',')) {
                return false;
            }
            int start = at;
            int hearer = number(0, town.drinkers - 1);
            if (hearer == WRONG) {
                return false;
            }
            if (hearer == teller || (town.hearersOf(teller) >> hearer & 1) != 0) {
                at = start;
                return fails(NOT_AS_TOLD);
            }
            if (!passes(';')) {
                return false;
            }
            town.addTie(teller, hearer);
            return true;
        }

        private boolean fails(int fault) {
            latestFault = fault;
            return false;
        }

        /** The byte that is next; behind the end, none that could stand. */
        private int letter() {
            return byteAt(at);
        }

        private int byteAt(int i) {
            return i >= 0 && i < length ? tape[i] : WRONG;
        }

        private boolean passes(int letter) {
            if (letter() != letter) {
                return fails(CANNOT_STAND);
            }
            at++;
            return true;
        }

        private int number(int least, int most) {
            int figures = 0;
            int value = 0;
            while (figures < 3 && isFigure(byteAt(at + figures))) {
                value = 10 * value + byteAt(at + figures) - '0';
                figures++;
            }
            if (figures == 0 || figures > 2) {
                fails(CANNOT_STAND);
                return WRONG;
            }
            if (value < least || value > most) {
                fails(NOT_AS_TOLD);
                return WRONG;
            }
            at += figures;
            return value;
        }

        private static boolean isFigure(int letter) {
            return letter >= '0' && letter <= '9';
        }

        private static int sortOf(int letter) {
            switch (letter) {
                case 'd':
                    return PLAIN;
                case 'g':
                    return GOSSIP;
                case 'w':
                    return WIFE;
                case 'b':
                    return BOY;
                case 'r':
                    return RAT;
                default:
                    return WRONG;
            }
        }
    }

    /** A TOWN as it was told, and its cellar; there is none while there are no drinkers. */
    private static final class Town {
        private int oak = 0;
        private int keeps = 0;
        private int excise = 0;
        private int drinkers = 0;
        private final int[] kinds = new int[DRINKERS];
        private final int[] doubts = new int[DRINKERS];
        private final int[] dislikes = new int[DRINKERS];
        private int ties = 0;
        private final int[] tellers = new int[TIES];
        private final int[] hearers = new int[TIES];
        private final Cellar cellar = new Cellar();

        void empty() {
            drinkers = 0;
            ties = 0;
            cellar.empty();
        }

        void become(Town other) {
            oak = other.oak;
            keeps = other.keeps;
            excise = other.excise;
            drinkers = other.drinkers;
            System.arraycopy(other.kinds, 0, kinds, 0, DRINKERS);
            System.arraycopy(other.doubts, 0, doubts, 0, DRINKERS);
            System.arraycopy(other.dislikes, 0, dislikes, 0, DRINKERS);
            ties = other.ties;
            System.arraycopy(other.tellers, 0, tellers, 0, TIES);
            System.arraycopy(other.hearers, 0, hearers, 0, TIES);
            cellar.become(other.cellar);
        }

        void addDrinker(int kind, int doubt, int disliked) {
            kinds[drinkers] = kind;
            doubts[drinkers] = doubt;
            dislikes[drinkers] = disliked;
            drinkers++;
        }

        void addTie(int teller, int hearer) {
            tellers[ties] = teller;
            hearers[ties] = hearer;
            ties++;
        }

        int everybody() {
            return (1 << drinkers) - 1;
        }

        int hearersOf(int drinker) {
            int set = 0;
            for (int k = 0; k < ties; k++) {
                if (tellers[k] == drinker) {
                    set |= 1 << hearers[k];
                }
            }
            return set;
        }

        boolean isOff(int age) {
            return age > keeps;
        }

        int strong(int malt, int age) {
            if (isOff(age)) {
                return 0;
            }
            return age < oak ? malt - malt / 3 : malt;
        }

        int strongOf(int cask) {
            return strong(cellar.maltOf(cask), cellar.ageOf(cask));
        }

        int casksOff() {
            int set = 0;
            for (int cask = 0; cask < CASKS; cask++) {
                if (!cellar.isMissing(cask) && isOff(cellar.ageOf(cask))) {
                    set |= 1 << cask;
                }
            }
            return set;
        }
    }

    /**
     * All that ACTS change, in one array, so that it is kept and brought back at one stroke. WHOM is counted from
     * FIRST on there, so that an array of zeros is an empty cellar.
     */
    private static final class Cellar {
        private static final int DAY = 0, WHOM = 1, MALT = WHOM + CASKS, AGE = MALT + CASKS, NOTES = AGE + CASKS;
        private static final int LENGTH = NOTES + DRINKERS;
        private static final int MISSING = 0, FIRST = 1;
        private final int[] state = new int[LENGTH];

        void empty() {
            Arrays.fill(state, 0);
        }

        void become(Cellar other) {
            System.arraycopy(other.state, 0, state, 0, LENGTH);
        }

        int today() {
            return state[DAY];
        }

        boolean isMissing(int cask) {
            return state[WHOM + cask] == MISSING;
        }

        int whomOf(int cask) {
            return state[WHOM + cask] - FIRST;
        }

        int maltOf(int cask) {
            return state[MALT + cask];
        }

        int ageOf(int cask) {
            return state[AGE + cask];
        }

        int notesOf(int whom) {
            return state[NOTES + whom];
        }

        int maltOfBoth(int cask, int into) {
            return Math.min(MOST_MALT, maltOf(cask) + maltOf(into));
        }

        void fill(int cask, int whom, int malt) {
            state[WHOM + cask] = whom + FIRST;
            state[MALT + cask] = malt;
            state[AGE + cask] = 0;
        }

        void setMalt(int cask, int malt) {
            state[MALT + cask] = malt;
        }

        void lose(int cask) {
            state[WHOM + cask] = MISSING;
        }

        void note(int whom, int believers) {
            state[NOTES + whom] |= believers;
        }

        void passDay() {
            state[DAY]++;
            for (int cask = 0; cask < CASKS; cask++) {
                state[AGE + cask]++;
            }
        }

        int leastMissing() {
            for (int cask = 0; cask < CASKS; cask++) {
                if (isMissing(cask)) {
                    return cask;
                }
            }
            return NONE;
        }

        int howMany() {
            int there = 0;
            for (int cask = 0; cask < CASKS; cask++) {
                if (!isMissing(cask)) {
                    there++;
                }
            }
            return there;
        }

        int allMalt() {
            int sum = 0;
            for (int cask = 0; cask < CASKS; cask++) {
                if (!isMissing(cask)) {
                    sum += maltOf(cask);
                }
            }
            return sum;
        }

        int allNotes() {
            int sum = 0;
            for (int whom = 0; whom < DRINKERS; whom++) {
                sum += Integer.bitCount(notesOf(whom));
            }
            return sum;
        }
    }

    /** How the cellar was ahead of each ACT that can be undone, in a ring: the oldest gives its place to a new one. */
    private static final class Acts {
        private final int[][] before = new int[ACTS][Cellar.LENGTH];
        private int next = 0;
        private int kept = 0;

        void forget() {
            kept = 0;
        }

        void keep(Cellar cellar) {
            System.arraycopy(cellar.state, 0, before[next], 0, Cellar.LENGTH);
            next = (next + 1) % ACTS;
            kept = Math.min(ACTS, kept + 1);
        }

        void takeBack(Cellar cellar) {
            next = (next + ACTS - 1) % ACTS;
            kept--;
            System.arraycopy(before[next], 0, cellar.state, 0, Cellar.LENGTH);
        }
    }

    /** A saying on its way through the TOWN, step by step; ties can be left out, a DRINKER taken as another KIND. */
    private static final class Telling {
        private final Town town;
        private final int[] kinds = new int[DRINKERS];
        private final int[] tells = new int[DRINKERS];
        private int[] now = new int[DRINKERS];
        private int[] next = new int[DRINKERS];
        private int everybody = 0;
        private int whom = 0;
        private int believers = 0;
        private int reached = 0;
        private int steps = 0;

        Telling(Town town) {
            this.town = town;
        }

        void beAsTold() {
            System.arraycopy(town.kinds, 0, kinds, 0, DRINKERS);
            leaveOut(0);
        }

        void leaveOut(int without) {
            Arrays.fill(tells, 0);
            for (int k = 0; k < town.ties; k++) {
                if ((without >> k & 1) == 0) {
                    tells[town.tellers[k]] |= 1 << town.hearers[k];
                }
            }
        }

        void takeAs(int drinker, int kind) {
            kinds[drinker] = kind;
        }

        int tapIn(Cellar cellar, int cask, int drinker) {
            int malt = cellar.maltOf(cask);
            beAsTold();
            spread(cellar.whomOf(cask), town.strong(malt, cellar.ageOf(cask)), 1 << drinker);
            cellar.note(whom, believers);
            cellar.setMalt(cask, Math.max(0, malt - 1));
            return believers;
        }

        void spreadCask(int cask, int some) {
            spread(town.cellar.whomOf(cask), town.strongOf(cask), some);
        }

        /** Each DRINKER passes on once, so nothing comes to anybody later than in step DRINKERS. */
        void spread(int about, int strong, int some) {
            everybody = town.everybody();
            whom = about;
            believers = 0;
            reached = 0;
            steps = 0;
            Arrays.fill(now, strong);
            int coming = some;
            for (int step = 0; step <= DRINKERS && coming != 0; step++) {
                if ((coming & ~reached) != 0) {
                    steps = step;
                }
                coming = goOneStep(coming);
            }
        }

        private int goOneStep(int coming) {
            int firsts = coming & ~reached;
            int following = 0;
            Arrays.fill(next, 0);
            for (int drinker = 0; drinker < town.drinkers; drinker++) {
                if ((coming >> drinker & 1) != 0) {
                    boolean believes = isBelieved(drinker, now[drinker]);
                    if (believes) {
                        believers |= 1 << drinker;
                    }
                    if ((firsts >> drinker & 1) != 0) {
                        following |= passOn(drinker, passedOn(kinds[drinker], now[drinker], believes));
                    }
                }
            }
            reached |= coming;
            int[] spent = now;
            now = next;
            next = spent;
            return following;
        }

        private boolean isBelieved(int drinker, int strong) {
            int kind = kinds[drinker];
            if (kind == BOY || kind == RAT) {
                return false;
            }
            int weight = kind == WIFE ? strong / 2 : strong;
            if (drinker == whom) {
                // whoever is told to dislike itself dislikes nobody, so the 3 are never added here
                weight -= 5;
            } else if (town.dislikes[drinker] == whom) {
                weight += 3;
            }
            return weight >= town.doubts[drinker];
        }

        private static int passedOn(int kind, int strong, boolean believes) {
            switch (kind) {
                case GOSSIP:
                    return believes ? strong + 1 : 0;
                case BOY:
                    return strong - 2;
                case RAT:
                    return strong / 2;
                default:
                    return believes ? strong - 1 : 0;
            }
        }

        private int passOn(int drinker, int strong) {
            if (strong <= 0) {
                return 0;
            }
            int hearers = kinds[drinker] == RAT ? everybody & ~(1 << drinker) : tells[drinker];
            for (int hearer = 0; hearer < town.drinkers; hearer++) {
                if ((hearers >> hearer & 1) != 0) {
                    next[hearer] = Math.max(next[hearer], strong);
                }
            }
            return hearers;
        }
    }

    /** What is asked of tellings that nobody has told; only its own cellar changes. */
    private static final class Foretelling {
        private static final long FACTOR = 16807, MODULUS = 2147483647;
        private final Town town;
        private final Telling saying;
        private final Cellar week = new Cellar();
        private final long[] weights = new long[TIES + 1];

        Foretelling(Town town, Telling saying) {
            this.town = town;
            this.saying = saying;
        }

        /** Sets come by their numbers, so only one with fewer takes the place of one that fits. */
        int fewestTold(int cask, int to, int not) {
            int best = NONE;
            saying.beAsTold();
            for (int some = 0; some <= town.everybody(); some++) {
                if (best == NONE || Integer.bitCount(some) < Integer.bitCount(best)) {
                    saying.spreadCask(cask, some);
                    if ((saying.believers & (to | not)) == to) {
                        best = some;
                    }
                }
            }
            return best;
        }

        int fewestWithout(int cask, int from, int other) {
            int best = NONE;
            saying.beAsTold();
            for (int without = 0; without < 1 << town.ties; without++) {
                if (best == NONE || Integer.bitCount(without) < Integer.bitCount(best)) {
                    saying.leaveOut(without);
                    saying.spreadCask(cask, 1 << from);
                    if ((saying.reached >> other & 1) == 0) {
                        best = without;
                    }
                }
            }
            return best;
        }

        int fittingMalts(int cask, int[] taps, int i, int n) {
            int set = 0;
            saying.beAsTold();
            for (int malt = 0; malt <= MOST_MALT; malt++) {
                if (fits(cask, malt, taps, i, n)) {
                    set |= 1 << malt;
                }
            }
            return set;
        }

        int fittingKinds(int drinker, int cask, int[] taps, int i, int n) {
            int set = 0;
            saying.beAsTold();
            for (int kind = PLAIN; kind <= RAT; kind++) {
                saying.takeAs(drinker, kind);
                if (fits(cask, town.cellar.maltOf(cask), taps, i, n)) {
                    set |= 1 << kind;
                }
            }
            return set;
        }

        private boolean fits(int cask, int malt, int[] taps, int i, int n) {
            int whom = town.cellar.whomOf(cask);
            int strong = town.strong(malt, town.cellar.ageOf(cask));
            for (int k = 0; k < n; k++) {
                saying.spread(whom, strong, 1 << taps[i + 2 * k]);
                if (saying.believers != taps[i + 2 * k + 1]) {
                    return false;
                }
            }
            return true;
        }

        int bestTap(int cask) {
            int best = 0;
            int most = -1;
            for (int drinker = 0; drinker < town.drinkers; drinker++) {
                int many = believersAt(cask, drinker);
                if (many > most) {
                    best = drinker;
                    most = many;
                }
            }
            return best;
        }

        int believersAt(int cask, int drinker) {
            saying.beAsTold();
            saying.spreadCask(cask, 1 << drinker);
            return Integer.bitCount(saying.believers);
        }

        int believersOfBlend(int cask, int into, int drinker) {
            int strong = town.strong(town.cellar.maltOfBoth(cask, into), town.cellar.ageOf(into));
            saying.beAsTold();
            saying.spread(town.cellar.whomOf(into), strong, 1 << drinker);
            return Integer.bitCount(saying.believers);
        }

        /** Of 10 to the power of how many ties there are, those cases by which the other one BELIEVES. */
        long casesOfBelief(int cask, int from, int other, int p) {
            long cases = 0;
            weigh(p);
            saying.beAsTold();
            for (int without = 0; without < 1 << town.ties; without++) {
                long weight = weights[Integer.bitCount(without)];
                if (weight > 0) {
                    saying.leaveOut(without);
                    saying.spreadCask(cask, 1 << from);
                    cases += (saying.believers >> other & 1) * weight;
                }
            }
            return cases;
        }

        private void weigh(int p) {
            for (int silent = 0; silent <= town.ties; silent++) {
                weights[silent] = power(p, silent) * power(TENTHS - p, town.ties - silent);
            }
        }

        Cellar cellarAfterWeek(int n, int seed) {
            long x = seed;
            week.become(town.cellar);
            for (int k = 0; k < n; k++) {
                x = x * FACTOR % MODULUS;
                int cask = (int) (x % CASKS);
                if (!week.isMissing(cask) && town.drinkers > 0) {
                    saying.tapIn(week, cask, (int) (x % town.drinkers));
                }
                week.passDay();
            }
            return week;
        }
    }

    /** ASKS, each by the BODY of the nearest KIND, and THE TRACE that BODIES leave. */
    private static final class Asking {
        private static final int TRACE = 16, DEEPEST = 12;
        private static final int[] SIZE_BODIES = {10, 11, 12, 11, 13, 14};
        private static final int[] MARK_BODIES = {20, 21, 24, 22, 23, 23};
        private final Town town;
        private final int[] trace = new int[TRACE];
        private int length = 0;

        Asking(Town town) {
            this.town = town;
        }

        int sizeOf(int one) {
            length = 0;
            return given(SIZE_BODIES[town.kinds[one]], one, 0);
        }

        int markOf(int one) {
            length = 0;
            return given(MARK_BODIES[town.kinds[one]], one, 0);
        }

        int traced(int i) {
            return i >= 0 && i < length ? trace[i] : NONE;
        }

        private void leave(int body) {
            if (length < TRACE) {
                trace[length] = body;
                length++;
            }
        }

        /** SIZE asks MARK of PLAIN ones alone, MARK asks SIZE of BOYS alone: no ask comes back to itself. */
        private int given(int body, int one, int depth) {
            if (depth > DEEPEST) {
                return 0;
            }
            leave(body);
            int deeper = depth + 1;
            switch (body) {
                case 10:
                    return town.doubts[one];
                case 11:
                    return given(10, one, deeper) + given(MARK_BODIES[town.kinds[one]], one, deeper);
                case 12:
                    return -given(11, one, deeper);
                case 13:
                    return given(10, one, deeper) - 100;
                case 14:
                    return 2 * given(13, one, deeper);
                case 21:
                    return given(20, one, deeper) + town.dislikes[one];
                case 22:
                    return given(21, one, deeper) - 1000;
                case 23:
                    return given(20, one, deeper) - given(SIZE_BODIES[town.kinds[one]], one, deeper);
                case 24:
                    return 2 * given(21, one, deeper);
                default:
                    return one;
            }
        }
    }
}
