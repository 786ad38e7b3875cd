import java.util.Arrays;

/**
 * Searches by trials: a space of choices, trials in it, halving rounds over them, folds of rows.
 *
 * The public methods look at every argument; the classes inside are only handed what has been looked at.
 */
public final class TrialSearch {
    public static final int BAD = -1, NONE = -2, NOT = -3, FULL = -4;

    private static final int MOST_NAMES = 8;
    private static final int MOST_VALUES = 30;
    private static final int MOST_SET = (1 << MOST_VALUES) - 1;
    private static final int MOST_TRIALS = 60;
    private static final int MOST_STEPS = 20;
    private static final int MOST_CANDIDATES = 40;
    private static final int MOST_NEAR = 5;
    private static final int MOST_SCORE = 1_000_000;
    private static final int MOST_BUDGET = 1_000_000;
    private static final int MOST_FACTOR = 5;
    private static final int MOST_ROWS = 200;
    private static final int MOST_FOLDS = 10;

    private static final int NO_REPORT = -2_000_000;
    private static final int PRUNED_ANSWER = -10;
    // A forecast may itself be -1 or -2, so its refusals lie far below all forecasts.
    private static final long FORECAST_REFUSED = -1_000_000_000_000_000_000L;

    private static final int GRID = 0, DRAW = 1, NAME_BY_NAME = 2;
    private static final int OPEN = 0, SCORED = 1, FAILED = 2, PRUNED = 3;

    private final Space space;
    private final Trials trials;
    private final Rounds rounds;
    private final Folds parts;

    public TrialSearch() {
        space = new Space();
        trials = new Trials(space);
        rounds = new Rounds();
        parts = new Folds();
    }

    // ---- the space

    public int name(int many, int on, int set) {
        if (!within(many, 1, MOST_VALUES) || !within(on, -1, space.names - 1)) {
            return BAD;
        }
        if (on >= 0 && !within(set, 1, MOST_SET)) {
            return BAD;
        }
        if (trials.made > 0) {
            return NOT;
        }
        return space.names < MOST_NAMES ? space.add(many, on, set) : FULL;
    }

    public long points() {
        return space.all;
    }

    public int value(long point, int name) {
        if (!isPoint(point) || !within(name, 0, space.names - 1)) {
            return BAD;
        }
        space.read(point, space.left);
        return space.left[name];
    }

    public long number(long w) {
        return space.takeBits(w, space.left) ? space.place(space.left) : NONE;
    }

    public int distance(long p, long q) {
        if (!isPoint(p) || !isPoint(q)) {
            return BAD;
        }
        space.read(p, space.left);
        space.read(q, space.right);
        return space.apart(space.left, space.right);
    }

    // ---- trials

    public int trial(int how, int seed) {
        if (!within(how, GRID, NAME_BY_NAME) || (how == GRID && seed < 0)) {
            return BAD;
        }
        return trials.made < MOST_TRIALS ? trials.add(placeBy(how, seed)) : FULL;
    }

    public int guess(int seed, int candidates, int k) {
        if (!within(candidates, 1, MOST_CANDIDATES) || !within(k, 1, MOST_NEAR)) {
            return BAD;
        }
        return trials.made < MOST_TRIALS ? trials.add(trials.bestCandidate(seed, candidates, k)) : FULL;
    }

    public long forecast(long point, int k, int side) {
        if (!isPoint(point) || !within(k, 1, MOST_NEAR) || !within(side, 0, 1)) {
            return FORECAST_REFUSED + BAD;
        }
        if (trials.scored == 0) {
            return FORECAST_REFUSED + NONE;
        }
        long sum = trials.nearSum(point, k);
        long count = Math.min(k, trials.scored);
        long common = commonDivisor(Math.abs(sum), count);
        return cut(side == 0 ? sum : count, common);
    }

    public int score(int trial, int v, boolean well) {
        if (!isTrial(trial) || !isMark(v, well)) {
            return BAD;
        }
        return trials.states[trial] == OPEN ? trials.close(trial, v, well) : NOT;
    }

    public int report(int trial, int v, int m) {
        if (!isTrial(trial) || !isMark(v, true) || !within(m, 0, MOST_TRIALS)) {
            return BAD;
        }
        if (trials.states[trial] != OPEN) {
            return NOT;
        }
        return trials.steps[trial] < MOST_STEPS ? trials.addReport(trial, v, m) : FULL;
    }

    public int told(int trial, int what) {
        if (!isTrial(trial)) {
            return BAD;
        }
        switch (what) {
            case 0:
                return trials.states[trial];
            case 1:
                return trials.scores[trial];
            case 2:
                return trials.steps[trial];
            case 3:
                return rounds.marks[trial];
            case 4:
                return rounds.isIn(trial) ? 1 : 0;
            default:
                return BAD;
        }
    }

    public long point(int trial) {
        return isTrial(trial) ? trials.places[trial] : BAD;
    }

    public int reported(int trial, int step) {
        if (!isTrial(trial) || !within(step, 0, trials.steps[trial] - 1)) {
            return NO_REPORT;
        }
        return trials.reports[trial][step];
    }

    public int best() {
        return trials.firstGreatest();
    }

    // ---- rounds

    public int bracket(int from, int n, int budget, int factor) {
        if (!within(n, 1, MOST_TRIALS) || !within(from, 0, trials.made - n)) {
            return BAD;
        }
        if (!within(budget, 1, MOST_BUDGET) || !within(factor, 2, MOST_FACTOR)) {
            return BAD;
        }
        rounds.start(from, n, budget, factor);
        return 1;
    }

    public int result(int trial, int v, boolean well) {
        if (!isTrial(trial) || !isMark(v, well)) {
            return BAD;
        }
        return rounds.isWaiting(trial) ? rounds.mark(trial, v, well) : NOT;
    }

    public int halve() {
        return rounds.canEnd() ? rounds.end() : NOT;
    }

    public int round(int what) {
        if (!within(what, 0, 3)) {
            return BAD;
        }
        return rounds.started ? rounds.tell(what) : NONE;
    }

    public long cost() {
        return rounds.spent;
    }

    public int plan(int budget, int factor, int s, int what) {
        if (!within(budget, 1, MOST_BUDGET) || !within(factor, 2, MOST_FACTOR) || !within(what, 0, 1)) {
            return BAD;
        }
        int last = lastBracket(budget, factor);
        if (!within(s, -1, last)) {
            return BAD;
        }
        if (s == -1) {
            return what == 0 ? last : BAD;
        }
        long grown = power(factor, s);
        return (int) (what == 0 ? cutUp((last + 1) * grown, s + 1) : cut(budget, grown));
    }

    // ---- folds

    public int folds(int rows, int outer, int inner, int seed) {
        if (!within(rows, 1, MOST_ROWS) || !within(outer, 2, MOST_FOLDS) || !within(inner, 2, MOST_FOLDS)) {
            return BAD;
        }
        parts.make(rows, outer, inner, seed);
        return 1;
    }

    public int fold(int row, int what) {
        if (!isRow(row) || !within(what, 0, 1)) {
            return BAD;
        }
        return what == 0 ? parts.outerOf[row] : parts.innerOf[row];
    }

    public int use(int outer, int inner) {
        if (!isOuter(outer) || !within(inner, -1, parts.inner - 1)) {
            return BAD;
        }
        if (parts.tested[outer] > 0) {
            return NOT;
        }
        return inner < 0 ? parts.test(outer) : parts.choose(outer, inner);
    }

    public int used(int row, int outer, int what) {
        if (!isRow(row) || !isOuter(outer)) {
            return BAD;
        }
        switch (what) {
            case 0:
                return parts.trained(row, outer);
            case 1:
                return parts.validated(row, outer);
            case 2:
                return parts.testing(row, outer);
            default:
                return BAD;
        }
    }

    // ---- what an argument may be

    private static boolean within(long x, long low, long high) {
        return low <= x && x <= high;
    }

    private static boolean isMark(int v, boolean well) {
        return !well || within(v, -MOST_SCORE, MOST_SCORE);
    }

    private boolean isPoint(long point) {
        return within(point, 0, space.all - 1);
    }

    private boolean isTrial(int trial) {
        return within(trial, 0, trials.made - 1);
    }

    private boolean isRow(int row) {
        return within(row, 0, parts.rows - 1);
    }

    private boolean isOuter(int outer) {
        return within(outer, 0, parts.outer - 1);
    }

    // ---- small sums

    /** What a divisor that is none would give is never asked for: it is 0 only so that nothing throws. */
    private static long cut(long above, long below) {
        return below > 0 ? above / below : 0;
    }

    private static long rest(long above, long below) {
        return below > 0 ? above % below : 0;
    }

    private static long cutUp(long above, long below) {
        return cut(above + below - 1, below);
    }

    /** Of 0 and n it is n, so that 0 by n becomes 0 by 1. */
    private static long commonDivisor(long a, long b) {
        long common = b;
        long other = a;
        // Euclid's steps: two of them halve a number at least, so a long needs fewer than 128.
        for (int i = 0; i < 128 && other > 0; i++) {
            long next = rest(common, other);
            common = other;
            other = next;
        }
        return common;
    }

    private static long power(int base, int exponent) {
        long product = 1;
        for (int i = 0; i < exponent; i++) {
            product *= base;
        }
        return product;
    }

    private static int lastBracket(int budget, int factor) {
        int s = 0;
        // A factor is 2 at least and a budget below 2^20.
        while (s < 20 && power(factor, s + 1) <= budget) {
            s++;
        }
        return s;
    }

    private long placeBy(int how, int seed) {
        if (how == GRID) {
            return rest(seed, space.all);
        }
        if (how == DRAW) {
            return Seeds.pick(space.all, seed);
        }
        space.pickEach(seed, space.left);
        return space.place(space.left);
    }

    /** HASH, and what is PICKED by it. */
    private static final class Seeds {
        private static final int MOST_BITS = 62;
        private static final int MOST_TRIES = 1_000_000;

        static int hash(int s, int t) {
            int x = s + t * 0x9E3779B9;
            x = (x ^ (x >>> 16)) * 0x85EBCA6B;
            x = (x ^ (x >>> 13)) * 0xC2B2AE35;
            return x ^ (x >>> 16);
        }

        static long pick(long below, int s) {
            int bits = bitsFor(below);
            // Java shifts a long by 64 as by 0, so no bits at all are not to be had by a shift.
            if (bits == 0) {
                return 0;
            }
            for (int k = 0; k < MOST_TRIES; k++) {
                long v = twoHashes(s, k) >>> (64 - bits);
                if (v < below) {
                    return v;
                }
            }
            return 0;
        }

        private static long twoHashes(int s, int k) {
            long high = hash(s, 2 * k + 1);
            long low = hash(s, 2 * k + 2);
            return (high << 32) | (low & 0xFFFFFFFFL);
        }

        private static int bitsFor(long below) {
            int bits = 0;
            while (bits < MOST_BITS && (1L << bits) < below) {
                bits++;
            }
            return bits;
        }
    }

    /** THE SPACE. A POINT in hand is a row of VALUES by NAMES, NONE where a NAME is not there. */
    private static final class Space {
        private static final int BITS_A_VALUE = 5;
        private static final int VALUE_MASK = 31;
        private static final int FARTHEST = 30;

        int names;
        long all;
        // Rows for the POINTS that one call has in hand.
        final int[] left;
        final int[] right;
        private final int[] many;
        private final int[] on;
        private final int[] set;
        // How many ways a NAME that is there can go, with all the NAMES that hang on it.
        private final long[] ways;
        // For each of its VALUES: how many ways the NAMES that hang on it can go then.
        private final long[][] waysBelow;

        Space() {
            names = 0;
            all = 1;
            left = new int[MOST_NAMES];
            right = new int[MOST_NAMES];
            many = new int[MOST_NAMES];
            on = new int[MOST_NAMES];
            set = new int[MOST_NAMES];
            ways = new long[MOST_NAMES];
            waysBelow = new long[MOST_NAMES][MOST_VALUES];
        }

        int add(int values, int parent, int choices) {
            int added = names;
            many[added] = values;
            on[added] = parent;
            set[added] = choices;
            names++;
            countWays();
            return added;
        }

        /** A NAME hangs on an earlier one, so from the last one down all that hang on it are counted before it. */
        private void countWays() {
            all = 1;
            for (int i = 0; i < names; i++) {
                Arrays.fill(waysBelow[i], 1);
            }
            for (int i = names - 1; i >= 0; i--) {
                ways[i] = sumOfWays(i);
                if (on[i] < 0) {
                    all *= ways[i];
                } else {
                    hang(i, on[i]);
                }
            }
        }

        private long sumOfWays(int name) {
            long sum = 0;
            for (int v = 0; v < many[name]; v++) {
                sum += waysBelow[name][v];
            }
            return sum;
        }

        private void hang(int name, int parent) {
            for (int v = 0; v < many[parent]; v++) {
                if (hasBit(set[name], v)) {
                    waysBelow[parent][v] *= ways[name];
                }
            }
        }

        private static boolean hasBit(int bits, int v) {
            return ((bits >>> v) & 1) == 1;
        }

        /** Looks at the VALUES of earlier NAMES alone. */
        private boolean isThere(int name, int[] values) {
            int parent = on[name];
            return parent < 0 || (values[parent] >= 0 && hasBit(set[name], values[parent]));
        }

        /** Puts the VALUES of the POINT of a number into the row. */
        void read(long point, int[] into) {
            long ahead = point;
            // How many ways the NAMES can go that are known to be there and have no VALUE yet.
            long open = all;
            for (int i = 0; i < names; i++) {
                into[i] = NONE;
                if (isThere(i, into)) {
                    open = cut(open, ways[i]);
                    int v = 0;
                    while (v < many[i] - 1 && ahead >= open * waysBelow[i][v]) {
                        ahead -= open * waysBelow[i][v];
                        v++;
                    }
                    into[i] = v;
                    open *= waysBelow[i][v];
                }
            }
        }

        /** The number of the POINT of a row of VALUES. */
        long place(int[] values) {
            long before = 0;
            long open = all;
            for (int i = 0; i < names; i++) {
                if (values[i] >= 0) {
                    open = cut(open, ways[i]);
                    for (int v = 0; v < values[i]; v++) {
                        before += open * waysBelow[i][v];
                    }
                    open *= waysBelow[i][values[i]];
                }
            }
            return before;
        }

        /** Whether each NAME that is there could take its five bits of w as its VALUE. */
        boolean takeBits(long w, int[] into) {
            for (int i = 0; i < names; i++) {
                into[i] = NONE;
                if (isThere(i, into)) {
                    int v = (int) (w >>> (BITS_A_VALUE * i)) & VALUE_MASK;
                    if (v >= many[i]) {
                        return false;
                    }
                    into[i] = v;
                }
            }
            return true;
        }

        void pickEach(int seed, int[] into) {
            for (int i = 0; i < names; i++) {
                into[i] = NONE;
                if (isThere(i, into)) {
                    into[i] = (int) Seeds.pick(many[i], Seeds.hash(seed, i));
                }
            }
        }

        int apart(int[] a, int[] b) {
            int sum = 0;
            for (int i = 0; i < names; i++) {
                sum += apartAt(i, a[i], b[i]);
            }
            return sum;
        }

        private int apartAt(int name, int v, int w) {
            if (v == w) {
                return 0;
            }
            if (v < 0 || w < 0) {
                return FARTHEST;
            }
            return (int) cut(Math.abs(v - w) * FARTHEST, many[name]);
        }
    }

    /** TRIALS, each a number into the rows; none is ever taken away. */
    private static final class Trials {
        int made;
        int scored;
        final long[] places;
        final int[] states;
        final int[] scores;
        final int[] steps;
        final int[][] reports;
        private final Space space;
        private final int[][] values;
        // The nearest SCORED TRIALS found so far, by DISTANCE.
        private final int[] nearGaps;
        private final int[] nearScores;
        // The REPORTS of other TRIALS for one STEP, rising.
        private final int[] others;

        Trials(Space space) {
            made = 0;
            scored = 0;
            places = new long[MOST_TRIALS];
            states = new int[MOST_TRIALS];
            scores = new int[MOST_TRIALS];
            steps = new int[MOST_TRIALS];
            reports = new int[MOST_TRIALS][MOST_STEPS];
            this.space = space;
            values = new int[MOST_TRIALS][MOST_NAMES];
            nearGaps = new int[MOST_NEAR];
            nearScores = new int[MOST_NEAR];
            others = new int[MOST_TRIALS];
        }

        int add(long place) {
            int added = made;
            places[added] = place;
            states[added] = OPEN;
            // No NAME comes once there are TRIALS, so the VALUES stay true.
            space.read(place, values[added]);
            made++;
            return added;
        }

        /** All FORECASTS of one call are by the same count, so their sums are compared. */
        long bestCandidate(int seed, int candidates, int k) {
            long best = Seeds.pick(space.all, Seeds.hash(seed, 0));
            if (scored == 0) {
                return best;
            }
            long bestSum = nearSum(best, k);
            for (int i = 1; i < candidates; i++) {
                long candidate = Seeds.pick(space.all, Seeds.hash(seed, i));
                long sum = nearSum(candidate, k);
                if (sum > bestSum) {
                    best = candidate;
                    bestSum = sum;
                }
            }
            return best;
        }

        /** The sum of the SCORES of the k SCORED TRIALS nearest to a POINT. */
        long nearSum(long point, int k) {
            space.read(point, space.left);
            int held = 0;
            for (int t = 0; t < made; t++) {
                if (states[t] == SCORED) {
                    held = holdNear(space.apart(space.left, values[t]), scores[t], held, k);
                }
            }
            long sum = 0;
            for (int i = 0; i < held; i++) {
                sum += nearScores[i];
            }
            return sum;
        }

        /** TRIALS come by rising numbers, so a new one goes behind those that are as near. */
        private int holdNear(int gap, int score, int held, int most) {
            int at = held;
            while (at > 0 && nearGaps[at - 1] > gap) {
                at--;
            }
            if (at >= most) {
                return held;
            }
            int last = Math.min(held, most - 1);
            for (int i = last; i > at; i--) {
                nearGaps[i] = nearGaps[i - 1];
                nearScores[i] = nearScores[i - 1];
            }
            nearGaps[at] = gap;
            nearScores[at] = score;
            return last + 1;
        }

        int close(int trial, int v, boolean well) {
            states[trial] = well ? SCORED : FAILED;
            if (well) {
                scores[trial] = v;
                scored++;
            }
            return scored;
        }

        int addReport(int trial, int v, int m) {
            int step = steps[trial];
            boolean prunes = m > 0 && isBelowMiddle(trial, step, v, m);
            reports[trial][step] = v;
            steps[trial]++;
            if (prunes) {
                states[trial] = PRUNED;
                return PRUNED_ANSWER - step;
            }
            return step;
        }

        private boolean isBelowMiddle(int trial, int step, int v, int m) {
            int count = 0;
            for (int t = 0; t < made; t++) {
                if (t != trial && steps[t] > step) {
                    sortIn(reports[t][step], count);
                    count++;
                }
            }
            return count >= m && v < others[(count - 1) / 2];
        }

        private void sortIn(int report, int count) {
            int at = count;
            while (at > 0 && others[at - 1] > report) {
                others[at] = others[at - 1];
                at--;
            }
            others[at] = report;
        }

        int firstGreatest() {
            int best = NONE;
            for (int t = 0; t < made; t++) {
                if (states[t] == SCORED && (best < 0 || scores[t] > scores[best])) {
                    best = t;
                }
            }
            return best;
        }
    }

    /** THE BRACKET and its ROUNDS. */
    private static final class Rounds {
        private static final long MOST_GROWN_BUDGET = 1_000_000_000L;
        private static final int OUT = 0, WAITING = 1, DONE = 2, FAILING = 3, KEPT = 4;

        boolean started;
        long spent;
        // The RESULTS of this ROUND, 0 where there is none.
        final int[] marks;
        private final int[] stands;
        private boolean over;
        private int in;
        private int waiting;
        private int halved;
        private int budget;
        private int factor;

        Rounds() {
            started = false;
            spent = 0;
            marks = new int[MOST_TRIALS];
            stands = new int[MOST_TRIALS];
        }

        void start(int from, int n, int firstBudget, int growth) {
            started = true;
            over = false;
            spent = 0;
            halved = 0;
            budget = firstBudget;
            factor = growth;
            for (int t = 0; t < MOST_TRIALS; t++) {
                marks[t] = 0;
                stands[t] = from <= t && t - from < n ? WAITING : OUT;
            }
            in = n;
            waiting = n;
        }

        boolean isIn(int trial) {
            return stands[trial] != OUT;
        }

        boolean isWaiting(int trial) {
            return stands[trial] == WAITING;
        }

        int mark(int trial, int v, boolean well) {
            stands[trial] = well ? DONE : FAILING;
            marks[trial] = well ? v : 0;
            spent += budget;
            waiting--;
            return waiting;
        }

        boolean canEnd() {
            return started && !over && waiting == 0;
        }

        int end() {
            long share = Math.max(1, cut(in, factor));
            int kept = 0;
            while (kept < share && keepGreatest()) {
                kept++;
            }
            openRound();
            in = kept;
            waiting = kept;
            halved++;
            budget = (int) Math.min((long) budget * factor, MOST_GROWN_BUDGET);
            over = in <= 1;
            return in;
        }

        private boolean keepGreatest() {
            int greatest = NONE;
            for (int t = 0; t < MOST_TRIALS; t++) {
                if (stands[t] == DONE && (greatest < 0 || marks[t] > marks[greatest])) {
                    greatest = t;
                }
            }
            if (greatest < 0) {
                return false;
            }
            stands[greatest] = KEPT;
            return true;
        }

        private void openRound() {
            for (int t = 0; t < MOST_TRIALS; t++) {
                stands[t] = stands[t] == KEPT ? WAITING : OUT;
                marks[t] = 0;
            }
        }

        int tell(int what) {
            switch (what) {
                case 0:
                    return in;
                case 1:
                    return halved;
                case 2:
                    return budget;
                default:
                    return over ? 1 : 0;
            }
        }
    }

    /**
     * FOLDS. Rows of the same folds are used alike, so what is counted is how often an OUTER fold was tested
     * and was chosen for with an INNER one; a row's counts follow from those.
     */
    private static final class Folds {
        private static final int ROW_BITS = 8;
        private static final int ROW_MASK = 255;

        int rows;
        int outer;
        int inner;
        final int[] outerOf;
        final int[] innerOf;
        final int[] tested;
        private final int[][] chosen;
        // HASH above, row below: sorted as longs they are in the order of the rows.
        private final long[] order;

        Folds() {
            rows = 0;
            outer = 0;
            inner = 0;
            outerOf = new int[MOST_ROWS];
            innerOf = new int[MOST_ROWS];
            tested = new int[MOST_FOLDS];
            chosen = new int[MOST_FOLDS][MOST_FOLDS];
            order = new long[MOST_ROWS];
        }

        void make(int rowCount, int outerCount, int innerCount, int seed) {
            rows = rowCount;
            outer = outerCount;
            inner = innerCount;
            Arrays.fill(tested, 0);
            for (int o = 0; o < MOST_FOLDS; o++) {
                Arrays.fill(chosen[o], 0);
            }
            for (int row = 0; row < rows; row++) {
                sortIn(((long) Seeds.hash(seed, row) << ROW_BITS) | row, row);
            }
            for (int p = 0; p < rows; p++) {
                int row = (int) order[p] & ROW_MASK;
                outerOf[row] = (int) rest(p, outer);
                innerOf[row] = (int) rest(cut(p, outer), inner);
            }
        }

        private void sortIn(long key, int count) {
            int low = 0;
            int high = count;
            // Each step halves what is left, and fewer than 2^8 rows are sorted.
            for (int step = 0; step < ROW_BITS && low < high; step++) {
                int middle = (low + high) / 2;
                if (order[middle] < key) {
                    low = middle + 1;
                } else {
                    high = middle;
                }
            }
            System.arraycopy(order, low, order, low + 1, count - low);
            order[low] = key;
        }

        int test(int o) {
            tested[o]++;
            int count = 0;
            for (int row = 0; row < rows; row++) {
                if (outerOf[row] == o) {
                    count++;
                }
            }
            return count;
        }

        int choose(int o, int i) {
            chosen[o][i]++;
            int count = 0;
            for (int row = 0; row < rows; row++) {
                if (outerOf[row] != o && innerOf[row] == i) {
                    count++;
                }
            }
            return count;
        }

        int trained(int row, int o) {
            if (outerOf[row] == o) {
                return 0;
            }
            int count = tested[o];
            for (int i = 0; i < inner; i++) {
                if (i != innerOf[row]) {
                    count += chosen[o][i];
                }
            }
            return count;
        }

        int validated(int row, int o) {
            return outerOf[row] == o ? 0 : chosen[o][innerOf[row]];
        }

        int testing(int row, int o) {
            return outerOf[row] == o ? tested[o] : 0;
        }
    }
}
