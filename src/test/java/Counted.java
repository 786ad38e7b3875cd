/** A TrialSearch that counts its calls: behind the 512th every answer is free, so no test goes there. */
final class Counted {
    static final int MOST_CALLS = 512;

    private final TrialSearch real = new TrialSearch();
    private int calls = 0;

    private TrialSearch next() {
        calls++;
        if (calls > MOST_CALLS) {
            throw new IllegalStateException("a test makes more than " + MOST_CALLS + " calls on one object");
        }
        return real;
    }

    int calls() {
        return calls;
    }

    int name(int many, int on, int set) {
        return next().name(many, on, set);
    }

    long points() {
        return next().points();
    }

    int value(long point, int name) {
        return next().value(point, name);
    }

    long number(long w) {
        return next().number(w);
    }

    int distance(long p, long q) {
        return next().distance(p, q);
    }

    int trial(int how, int seed) {
        return next().trial(how, seed);
    }

    int guess(int seed, int candidates, int k) {
        return next().guess(seed, candidates, k);
    }

    long forecast(long point, int k, int side) {
        return next().forecast(point, k, side);
    }

    int score(int trial, int v, boolean well) {
        return next().score(trial, v, well);
    }

    int report(int trial, int v, int m) {
        return next().report(trial, v, m);
    }

    int told(int trial, int what) {
        return next().told(trial, what);
    }

    long point(int trial) {
        return next().point(trial);
    }

    int reported(int trial, int step) {
        return next().reported(trial, step);
    }

    int best() {
        return next().best();
    }

    int bracket(int from, int n, int budget, int factor) {
        return next().bracket(from, n, budget, factor);
    }

    int result(int trial, int v, boolean well) {
        return next().result(trial, v, well);
    }

    int halve() {
        return next().halve();
    }

    int round(int what) {
        return next().round(what);
    }

    long cost() {
        return next().cost();
    }

    int plan(int budget, int factor, int s, int what) {
        return next().plan(budget, factor, s, what);
    }

    int folds(int rows, int outer, int inner, int seed) {
        return next().folds(rows, outer, inner, seed);
    }

    int fold(int row, int what) {
        return next().fold(row, what);
    }

    int use(int outer, int inner) {
        return next().use(outer, inner);
    }

    int used(int row, int outer, int what) {
        return next().used(row, outer, what);
    }
}
