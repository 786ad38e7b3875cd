import java.util.Random;

/** Long runs of random calls, each answer compared with the plain model's. */
public final class RandomRunsTest {
    private static final int[] EDGES = {Integer.MIN_VALUE, Integer.MIN_VALUE + 1, -1_000_001, -1_000_000, -2, -1, 0, 1,
        59, 60, 61, 1_000_000, 1_000_001, (1 << 30) - 1, 1 << 30, Integer.MAX_VALUE};
    private static final long[] LONG_EDGES = {Long.MIN_VALUE, -1_000_000_000_000L, -1L, 1L << 32, 1L << 40,
        1L << 62, Long.MAX_VALUE};
    private static final int MOST_POINTS = 1500;

    private final Random random;
    private final Check check;
    private final Counted real = new Counted();
    private final Model model = new Model();
    private final int kind;

    private RandomRunsTest(Check check, long seed) {
        this.check = check;
        this.random = new Random(seed);
        this.kind = random.nextInt(4);
    }

    public static void main(String[] args) {
        Check check = new Check("RandomRunsTest");
        for (long seed = 0; seed < 1500 && check.wrong() < 10; seed++) {
            new RandomRunsTest(check, seed).run(seed);
        }
        check.end();
    }

    /** A turn makes one call, or two to four for a FORECAST: 400 turns stay below the 512 calls of the document. */
    private void run(long seed) {
        for (int i = 0; i < 400 && check.wrong() < 10; i++) {
            String at = "seed " + seed + " call " + i + ": ";
            int turn = random.nextInt(100);
            if (i < 8 || turn < 20) {
                callSpace(at, i < 8);
            } else if (turn < 60 || (kind == 0 && turn < 90)) {
                callTrials(at);
            } else if (turn < 85 || (kind == 1 && turn < 97)) {
                callRounds(at);
            } else {
                callFolds(at);
            }
        }
    }

    /** Mostly low .. high, now and then just outside, or an edge of the int. */
    private int near(int low, int high) {
        int turn = random.nextInt(40);
        if (turn == 0) {
            return EDGES[random.nextInt(EDGES.length)];
        }
        if (turn == 1) {
            return low - 1;
        }
        if (turn == 2) {
            return high + 1;
        }
        return high < low ? low : low + random.nextInt(high - low + 1);
    }

    private long nearPoint() {
        int turn = random.nextInt(40);
        if (turn == 0) {
            return LONG_EDGES[random.nextInt(LONG_EDGES.length)];
        }
        return near(0, (int) model.points() - 1);
    }

    private int nearTrial() {
        return near(0, model.trials.size() - 1);
    }

    private int mark() {
        return random.nextBoolean() ? near(-3, 3) : near(-1_000_000, 1_000_000);
    }

    private void callSpace(String at, boolean early) {
        int turn = early ? 0 : random.nextInt(6);
        if (turn == 0) {
            int many = near(1, random.nextInt(10) == 0 ? 30 : 4);
            int on = random.nextInt(3) == 0 ? -1 : near(-1, model.names.size() - 1);
            int set = random.nextInt(3) == 0 ? near(0, (1 << 30) - 1) : near(1, 15);
            if (model.points() * Math.max(1, Math.min(many, 30)) <= MOST_POINTS || model.names.size() == 8) {
                check.due(at + "name " + many + " " + on + " " + set, real.name(many, on, set),
                    model.name(many, on, set));
            }
        } else if (turn == 1) {
            check.due(at + "points", real.points(), model.points());
        } else if (turn <= 3) {
            long p = nearPoint();
            int name = near(0, model.names.size() - 1);
            check.due(at + "value " + p + " " + name, real.value(p, name), model.value(p, name));
        } else if (turn == 4) {
            long w = wordOfBits();
            check.due(at + "number " + w, real.number(w), model.number(w));
        } else {
            long p = nearPoint();
            long q = nearPoint();
            check.due(at + "distance " + p + " " + q, real.distance(p, q), model.distance(p, q));
        }
    }

    private long wordOfBits() {
        if (random.nextInt(20) == 0) {
            return random.nextLong();
        }
        // Bits behind the eighth NAME, the sign among them, belong to none.
        long w = random.nextBoolean() ? 0 : random.nextLong() << 40;
        for (int i = 0; i < 8; i++) {
            int many = i < model.names.size() ? model.names.get(i).many : 32;
            w |= (long) random.nextInt(random.nextInt(15) == 0 ? 32 : many) << (5 * i);
        }
        return w;
    }

    private void callTrials(String at) {
        // Trials only late, so that the space has its NAMES; few in some runs.
        int turn = random.nextInt(kind == 2 ? 40 : 14);
        int t = nearTrial();
        if (turn == 0) {
            int how = near(0, 2);
            int seed = random.nextBoolean() ? near(0, 3000) : random.nextInt();
            check.due(at + "trial " + how + " " + seed, real.trial(how, seed), model.trial(how, seed));
        } else if (turn == 1) {
            int seed = random.nextInt();
            int c = near(1, 40);
            int k = near(1, 5);
            check.due(at + "guess " + seed + " " + c + " " + k, real.guess(seed, c, k), model.guess(seed, c, k));
        } else if (turn <= 3) {
            long p = nearPoint();
            int k = near(1, 5);
            for (int side = near(0, 0); side <= 1 && side >= -1; side++) {
                check.due(at + "forecast " + p + " " + k + " " + side, real.forecast(p, k, side),
                    model.forecast(p, k, side));
            }
        } else if (turn == 4) {
            int v = mark();
            boolean well = random.nextInt(4) > 0;
            check.due(at + "score " + t + " " + v + " " + well, real.score(t, v, well), model.score(t, v, well));
        } else if (turn <= 8) {
            int v = mark();
            int m = random.nextBoolean() ? near(0, 3) : near(0, 60);
            check.due(at + "report " + t + " " + v + " " + m, real.report(t, v, m), model.report(t, v, m));
        } else if (turn <= 10) {
            int what = near(0, 4);
            check.due(at + "told " + t + " " + what, real.told(t, what), model.told(t, what));
        } else if (turn == 11) {
            check.due(at + "point " + t, real.point(t), model.point(t));
        } else if (turn == 12) {
            int step = near(0, 20);
            check.due(at + "reported " + t + " " + step, real.reported(t, step), model.reported(t, step));
        } else {
            check.due(at + "best", real.best(), model.best());
        }
    }

    private void callRounds(String at) {
        int turn = random.nextInt(30);
        if (turn == 0) {
            int from = near(0, model.trials.size() - 1);
            int n = near(1, Math.max(1, model.trials.size() - Math.max(0, Math.min(from, 60))));
            int budget = random.nextBoolean() ? near(1, 9) : near(1, 1_000_000);
            int factor = near(2, 5);
            check.due(at + "bracket " + from + " " + n + " " + budget + " " + factor,
                real.bracket(from, n, budget, factor), model.bracket(from, n, budget, factor));
        } else if (turn < 20) {
            int t = random.nextBoolean() ? waitingTrial() : nearTrial();
            int v = mark();
            boolean well = random.nextInt(5) > 0;
            check.due(at + "result " + t + " " + v + " " + well, real.result(t, v, well), model.result(t, v, well));
        } else if (turn < 23) {
            check.due(at + "halve", real.halve(), model.halve());
        } else if (turn < 26) {
            int what = near(0, 3);
            check.due(at + "round " + what, real.round(what), model.round(what));
        } else if (turn < 28) {
            check.due(at + "cost", real.cost(), model.cost());
        } else {
            int r = random.nextBoolean() ? near(1, 100) : near(1, 1_000_000);
            int f = near(2, 5);
            int s = near(-1, 8);
            int what = near(0, 1);
            check.due(at + "plan " + r + " " + f + " " + s + " " + what, real.plan(r, f, s, what),
                Model.plan(r, f, s, what));
        }
    }

    private int waitingTrial() {
        for (int t = 0; t < model.trials.size(); t++) {
            if (model.trials.get(t).in && !model.trials.get(t).isDone()) {
                return t;
            }
        }
        return nearTrial();
    }

    private void callFolds(String at) {
        int turn = random.nextInt(12);
        if (turn == 0) {
            int rows = random.nextBoolean() ? near(1, 12) : near(1, 200);
            int outer = near(2, 10);
            int inner = near(2, 10);
            int seed = random.nextInt();
            check.due(at + "folds " + rows + " " + outer + " " + inner + " " + seed,
                real.folds(rows, outer, inner, seed), model.folds(rows, outer, inner, seed));
        } else if (turn < 4) {
            int row = near(0, model.rows - 1);
            int what = near(0, 1);
            check.due(at + "fold " + row + " " + what, real.fold(row, what), model.fold(row, what));
        } else if (turn < 8) {
            int outer = near(0, model.outer - 1);
            int inner = near(random.nextInt(4) == 0 ? -1 : 0, model.inner - 1);
            check.due(at + "use " + outer + " " + inner, real.use(outer, inner), model.use(outer, inner));
        } else {
            int row = near(0, model.rows - 1);
            int outer = near(0, model.outer - 1);
            int what = near(0, 2);
            check.due(at + "used " + row + " " + outer + " " + what, real.used(row, outer, what),
                model.used(row, outer, what));
        }
    }
}
