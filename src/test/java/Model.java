import java.math.BigInteger;
import java.util.ArrayList;
import java.util.Collections;
import java.util.HashMap;
import java.util.List;
import java.util.Map;

/**
 * The document written down a second time, as plainly as can be: all POINTS in a list, all counts by row.
 * Slow, and only for spaces whose POINTS can be listed.
 */
final class Model {
    static final long BAD = -1, NONE = -2, NOT = -3, FULL = -4;
    static final long FAR = 1_000_000_000_000_000_000L;

    static final class Name {
        int many;
        int on;
        int set;
    }

    static final class Trial {
        int point;
        int state;
        int score;
        boolean in;
        Integer result;
        boolean failedInRound;
        final List<Integer> reports = new ArrayList<>();

        boolean isDone() {
            return result != null || failedInRound;
        }
    }

    final List<Name> names = new ArrayList<>();
    List<Integer[]> points = new ArrayList<>();
    final List<Trial> trials = new ArrayList<>();

    boolean bracket;
    boolean over;
    int halved;
    long budget;
    int factor;
    long cost;

    int rows;
    int outer;
    int inner;
    int[] outerOf;
    int[] innerOf;
    boolean[] tested;
    Map<String, Integer> counts = new HashMap<>();

    Model() {
        points.add(new Integer[0]);
    }

    // ---- hash and picks

    static int hash(int s, int t) {
        int x = (int) (s + t * 0x9E3779B9L);
        x = (int) ((x ^ (x >>> 16)) * 0x85EBCA6BL);
        x = (int) ((x ^ (x >>> 13)) * 0xC2B2AE35L);
        return x ^ (x >>> 16);
    }

    static long picked(long n, int s) {
        int b = BigInteger.valueOf(n - 1).bitLength();
        BigInteger word = BigInteger.ONE.shiftLeft(32);
        for (int k = 0;; k++) {
            BigInteger high = BigInteger.valueOf(hash(s, 2 * k + 1)).mod(word);
            BigInteger low = BigInteger.valueOf(hash(s, 2 * k + 2)).mod(word);
            BigInteger v = high.multiply(word).add(low).shiftRight(64 - b);
            if (v.compareTo(BigInteger.valueOf(n)) < 0) {
                return v.longValueExact();
            }
        }
    }

    // ---- the space

    long name(int many, int on, int set) {
        if (many < 1 || many > 30 || on < -1 || on >= names.size()) {
            return BAD;
        }
        if (on != -1 && (set < 1 || set > (1 << 30) - 1)) {
            return BAD;
        }
        if (!trials.isEmpty()) {
            return NOT;
        }
        if (names.size() == 8) {
            return FULL;
        }
        Name name = new Name();
        name.many = many;
        name.on = on;
        name.set = set;
        names.add(name);
        points = extended();
        return names.size() - 1;
    }

    /** The last NAME's VALUES put behind every POINT keep the order that the document tells. */
    private List<Integer[]> extended() {
        int last = names.size() - 1;
        List<Integer[]> longer = new ArrayList<>();
        for (Integer[] point : points) {
            Integer[] row = java.util.Arrays.copyOf(point, last + 1);
            if (!isThere(last, row)) {
                longer.add(row);
                continue;
            }
            for (int v = 0; v < names.get(last).many; v++) {
                Integer[] copy = row.clone();
                copy[last] = v;
                longer.add(copy);
            }
        }
        return longer;
    }

    private boolean isThere(int i, Integer[] row) {
        Name name = names.get(i);
        return name.on == -1 || (row[name.on] != null && (name.set & (1 << row[name.on])) != 0);
    }

    private boolean isPoint(long p) {
        return p >= 0 && p < points.size();
    }

    long points() {
        return points.size();
    }

    long value(long point, int name) {
        if (!isPoint(point) || name < 0 || name >= names.size()) {
            return BAD;
        }
        Integer v = points.get((int) point)[name];
        return v == null ? NONE : v;
    }

    long number(long w) {
        Integer[] row = new Integer[names.size()];
        for (int i = 0; i < row.length; i++) {
            if (isThere(i, row)) {
                row[i] = (int) (w >> (5 * i)) & 31;
                if (row[i] >= names.get(i).many) {
                    return NONE;
                }
            }
        }
        return find(row);
    }

    private long find(Integer[] row) {
        for (int p = 0; p < points.size(); p++) {
            if (java.util.Arrays.equals(points.get(p), row)) {
                return p;
            }
        }
        throw new IllegalStateException("no such point");
    }

    long distance(long p, long q) {
        if (!isPoint(p) || !isPoint(q)) {
            return BAD;
        }
        long sum = 0;
        for (int i = 0; i < names.size(); i++) {
            Integer v = points.get((int) p)[i];
            Integer w = points.get((int) q)[i];
            if (v != null && w != null) {
                sum += Math.abs(v - w) * 30 / names.get(i).many;
            } else if (v != null || w != null) {
                sum += 30;
            }
        }
        return sum;
    }

    // ---- trials

    long trial(int how, int seed) {
        if (how < 0 || how > 2 || (how == 0 && seed < 0)) {
            return BAD;
        }
        if (trials.size() == 60) {
            return FULL;
        }
        if (how == 0) {
            return add(seed % points.size());
        }
        if (how == 1) {
            return add(picked(points.size(), seed));
        }
        Integer[] row = new Integer[names.size()];
        for (int i = 0; i < row.length; i++) {
            if (isThere(i, row)) {
                row[i] = (int) picked(names.get(i).many, hash(seed, i));
            }
        }
        return add(find(row));
    }

    private long add(long point) {
        Trial trial = new Trial();
        trial.point = (int) point;
        trials.add(trial);
        return trials.size() - 1;
    }

    long guess(int seed, int candidates, int k) {
        if (candidates < 1 || candidates > 40 || k < 1 || k > 5) {
            return BAD;
        }
        if (trials.size() == 60) {
            return FULL;
        }
        long best = picked(points.size(), hash(seed, 0));
        for (int i = 1; i < candidates && scored() > 0; i++) {
            long next = picked(points.size(), hash(seed, i));
            // a/b > c/d as a d > c b: all below the line are above 0
            if (forecast(next, k, 0) * forecast(best, k, 1) > forecast(best, k, 0) * forecast(next, k, 1)) {
                best = next;
            }
        }
        return add(best);
    }

    private int scored() {
        int count = 0;
        for (Trial trial : trials) {
            count += trial.state == 1 ? 1 : 0;
        }
        return count;
    }

    long forecast(long point, int k, int side) {
        if (!isPoint(point) || k < 1 || k > 5 || side < 0 || side > 1) {
            return BAD - FAR;
        }
        List<long[]> near = new ArrayList<>();
        for (int t = 0; t < trials.size(); t++) {
            if (trials.get(t).state == 1) {
                near.add(new long[] {distance(point, trials.get(t).point), t});
            }
        }
        if (near.isEmpty()) {
            return NONE - FAR;
        }
        near.sort((a, b) -> a[0] != b[0] ? Long.compare(a[0], b[0]) : Long.compare(a[1], b[1]));
        long count = Math.min(k, near.size());
        long sum = 0;
        for (int i = 0; i < count; i++) {
            sum += trials.get((int) near.get(i)[1]).score;
        }
        long common = BigInteger.valueOf(sum).gcd(BigInteger.valueOf(count)).longValue();
        return side == 0 ? sum / common : count / common;
    }

    private boolean isTrial(int t) {
        return t >= 0 && t < trials.size();
    }

    private static boolean isFar(int v) {
        return v < -1_000_000 || v > 1_000_000;
    }

    long score(int t, int v, boolean well) {
        if (!isTrial(t) || (well && isFar(v))) {
            return BAD;
        }
        Trial trial = trials.get(t);
        if (trial.state != 0) {
            return NOT;
        }
        trial.state = well ? 1 : 2;
        trial.score = well ? v : 0;
        return scored();
    }

    long report(int t, int v, int m) {
        if (!isTrial(t) || isFar(v) || m < 0 || m > 60) {
            return BAD;
        }
        Trial trial = trials.get(t);
        if (trial.state != 0) {
            return NOT;
        }
        int step = trial.reports.size();
        if (step == 20) {
            return FULL;
        }
        List<Integer> others = new ArrayList<>();
        for (Trial other : trials) {
            if (other != trial && other.reports.size() > step) {
                others.add(other.reports.get(step));
            }
        }
        Collections.sort(others);
        trial.reports.add(v);
        if (m > 0 && others.size() >= m) {
            int n = others.size();
            int middle = n % 2 == 1 ? others.get(n / 2) : others.get(n / 2 - 1);
            if (v < middle) {
                trial.state = 3;
                return -10 - step;
            }
        }
        return step;
    }

    long told(int t, int what) {
        if (!isTrial(t) || what < 0 || what > 4) {
            return BAD;
        }
        Trial trial = trials.get(t);
        long[] all = {trial.state, trial.state == 1 ? trial.score : 0, trial.reports.size(),
            trial.result == null ? 0 : trial.result, trial.in ? 1 : 0};
        return all[what];
    }

    long point(int t) {
        return isTrial(t) ? trials.get(t).point : BAD;
    }

    long reported(int t, int step) {
        if (!isTrial(t) || step < 0 || step >= trials.get(t).reports.size()) {
            return -2_000_000;
        }
        return trials.get(t).reports.get(step);
    }

    long best() {
        long best = NONE;
        for (int t = trials.size() - 1; t >= 0; t--) {
            if (trials.get(t).state == 1 && (best < 0 || trials.get(t).score >= trials.get((int) best).score)) {
                best = t;
            }
        }
        return best;
    }

    // ---- rounds

    long bracket(int from, int n, int r, int f) {
        if (n < 1 || n > 60 || from < 0 || (long) from + n > trials.size()) {
            return BAD;
        }
        if (r < 1 || r > 1_000_000 || f < 2 || f > 5) {
            return BAD;
        }
        for (int t = 0; t < trials.size(); t++) {
            trials.get(t).in = t >= from && t < from + n;
            trials.get(t).result = null;
            trials.get(t).failedInRound = false;
        }
        bracket = true;
        over = false;
        halved = 0;
        budget = r;
        factor = f;
        cost = 0;
        return 1;
    }

    private long waiting() {
        long count = 0;
        for (Trial trial : trials) {
            count += trial.in && !trial.isDone() ? 1 : 0;
        }
        return count;
    }

    private long inside() {
        long count = 0;
        for (Trial trial : trials) {
            count += trial.in ? 1 : 0;
        }
        return count;
    }

    long result(int t, int v, boolean well) {
        if (!isTrial(t) || (well && isFar(v))) {
            return BAD;
        }
        Trial trial = trials.get(t);
        if (!bracket || !trial.in || trial.isDone()) {
            return NOT;
        }
        if (well) {
            trial.result = v;
        } else {
            trial.failedInRound = true;
        }
        cost += budget;
        return waiting();
    }

    long halve() {
        if (!bracket || over || waiting() > 0) {
            return NOT;
        }
        List<Integer> done = new ArrayList<>();
        for (int t = 0; t < trials.size(); t++) {
            if (trials.get(t).in && trials.get(t).result != null) {
                done.add(t);
            }
        }
        // a stable sort leaves like ones by their numbers
        done.sort((a, b) -> Integer.compare(trials.get(b).result, trials.get(a).result));
        long most = Math.max(1, inside() / factor);
        for (int t = 0; t < trials.size(); t++) {
            int rank = done.indexOf(t);
            trials.get(t).in = rank >= 0 && rank < most;
        }
        for (Trial trial : trials) {
            trial.result = null;
            trial.failedInRound = false;
        }
        halved++;
        budget = Math.min(budget * factor, 1_000_000_000L);
        over = inside() < 2;
        return inside();
    }

    long round(int what) {
        if (what < 0 || what > 3) {
            return BAD;
        }
        if (!bracket) {
            return NONE;
        }
        return new long[] {inside(), halved, budget, over ? 1 : 0}[what];
    }

    long cost() {
        return bracket ? cost : 0;
    }

    static long plan(int r, int f, int s, int what) {
        if (r < 1 || r > 1_000_000 || f < 2 || f > 5 || what < 0 || what > 1) {
            return BAD;
        }
        int last = 0;
        while (BigInteger.valueOf(f).pow(last + 1).compareTo(BigInteger.valueOf(r)) <= 0) {
            last++;
        }
        if (s < -1 || s > last || (s == -1 && what == 1)) {
            return BAD;
        }
        if (s == -1) {
            return last;
        }
        long grown = BigInteger.valueOf(f).pow(s).longValueExact();
        long above = (last + 1) * grown;
        return what == 1 ? r / grown : above / (s + 1) + (above % (s + 1) == 0 ? 0 : 1);
    }

    // ---- folds

    long folds(int r, int o, int i, int seed) {
        if (r < 1 || r > 200 || o < 2 || o > 10 || i < 2 || i > 10) {
            return BAD;
        }
        rows = r;
        outer = o;
        inner = i;
        List<Integer> order = new ArrayList<>();
        for (int row = 0; row < r; row++) {
            order.add(row);
        }
        order.sort((a, b) -> Integer.compare(hash(seed, a), hash(seed, b)));
        outerOf = new int[r];
        innerOf = new int[r];
        for (int p = 0; p < r; p++) {
            outerOf[order.get(p)] = p % o;
            innerOf[order.get(p)] = p / o % i;
        }
        tested = new boolean[o];
        counts = new HashMap<>();
        return 1;
    }

    long fold(int row, int what) {
        if (row < 0 || row >= rows || what < 0 || what > 1) {
            return BAD;
        }
        return what == 0 ? outerOf[row] : innerOf[row];
    }

    long use(int o, int i) {
        if (o < 0 || o >= outer || i < -1 || i >= inner) {
            return BAD;
        }
        if (tested[o]) {
            return NOT;
        }
        tested[o] = i == -1;
        long count = 0;
        for (int row = 0; row < rows; row++) {
            boolean left = outerOf[row] == o;
            int what = left ? 2 : i != -1 && innerOf[row] == i ? 1 : 0;
            if (what == 2 && i != -1) {
                continue;
            }
            counts.merge(row + " " + o + " " + what, 1, Integer::sum);
            count += what > 0 ? 1 : 0;
        }
        return count;
    }

    long used(int row, int o, int what) {
        if (row < 0 || row >= rows || o < 0 || o >= outer || what < 0 || what > 2) {
            return BAD;
        }
        return counts.getOrDefault(row + " " + o + " " + what, 0);
    }
}
