/** Promise 9: forecast. */
public final class Promise09ForecastTest {
    private static final long FAR = 1_000_000_000_000_000_000L;
    private static final long BAD = -1 - FAR, NONE = -2 - FAR;
    private static final int LEAST = Integer.MIN_VALUE, GREATEST = Integer.MAX_VALUE;
    private static final Check CHECK = new Check("Promise 9, forecast");

    public static void main(String[] args) {
        pointFrom0ToTheLast();
        kFrom1To5();
        side0Or1();
        noScoredTrial();
        theKNearest();
        fewerThanK();
        ofLikeOnesTheLesserNumber();
        scoredOnesAlone();
        lowestTerms();
        greatestSums();
        notCutAtMinusOneAndTwo();
        emptySpace();
        theFirstOfSeveral();
        CHECK.end();
    }

    private static void asked(Scene scene, String text, Scene.Call call, long due) {
        Unchanged.by(CHECK, scene, text, call, due);
    }

    private static void forecastIs(String text, Counted x, long point, int k, long above, long below) {
        CHECK.due(text + ", above", x.forecast(point, k, 0), above);
        CHECK.due(text + ", below", x.forecast(point, k, 1), below);
    }

    private static Counted scored(int... scores) {
        Counted x = Make.trials(scores.length);
        for (int t = 0; t < scores.length; t++) {
            x.score(t, scores[t], true);
        }
        return x;
    }

    private static void pointFrom0ToTheLast() {
        asked(Scene.BUSY, "POINT 0", x -> x.forecast(0, 1, 0), 50);
        asked(Scene.BUSY, "the last POINT", x -> x.forecast(64, 2, 0), 43);
        long[] none = {-1, 65, 1L << 32, -(1L << 32), Long.MIN_VALUE, Long.MAX_VALUE};
        for (long p : none) {
            asked(Scene.BUSY, "POINT " + p + ", above", x -> x.forecast(p, 1, 0), BAD);
            asked(Scene.BUSY, "POINT " + p + ", below", x -> x.forecast(p, 1, 1), BAD);
        }
        CHECK.due("the last of 30^8", Scene.FULL.play().forecast(656_099_999_999L, 1, 0), -1_000_000);
        CHECK.due("behind the last of 30^8", Scene.FULL.play().forecast(656_100_000_000L, 1, 0), BAD);
    }

    private static void kFrom1To5() {
        asked(Scene.BUSY, "k 1", x -> x.forecast(0, 1, 1), 1);
        asked(Scene.BUSY, "k 5", x -> x.forecast(0, 5, 1), 2);
        for (int k : new int[] {0, 6, -1, LEAST, GREATEST}) {
            asked(Scene.BUSY, "k " + k, x -> x.forecast(0, k, 0), BAD);
        }
    }

    private static void side0Or1() {
        asked(Scene.BUSY, "side 0", x -> x.forecast(0, 2, 0), 43);
        asked(Scene.BUSY, "side 1", x -> x.forecast(0, 2, 1), 2);
        for (int side : new int[] {-1, 2, LEAST, GREATEST}) {
            asked(Scene.BUSY, "side " + side, x -> x.forecast(0, 2, side), BAD);
        }
    }

    private static void noScoredTrial() {
        asked(Scene.NEW, "no TRIAL, above", x -> x.forecast(0, 1, 0), NONE);
        asked(Scene.NEW, "no TRIAL, below", x -> x.forecast(0, 5, 1), NONE);
        asked(Scene.NO_SCORES, "TRIALS of each other STATE, above", x -> x.forecast(0, 1, 0), NONE);
        asked(Scene.NO_SCORES, "TRIALS of each other STATE, below", x -> x.forecast(64, 5, 1), NONE);
        Counted y = Make.trials(4);
        CHECK.due("OPEN ones", y.forecast(0, 1, 0), NONE);
        y.score(0, 3, false);
        CHECK.due("a FAILED one", y.forecast(0, 1, 0), NONE);
        y.report(1, 5, 0);
        y.report(2, 4, 1);
        CHECK.due("a PRUNED one", y.forecast(0, 1, 0), NONE);
        y.score(3, 0, true);
        CHECK.due("a SCORED one", y.forecast(0, 1, 0), 0);
    }

    private static void theKNearest() {
        Counted x = scored(1, 10, 100, 1_000, 10_000, 100_000);
        forecastIs("the nearest", x, 0, 1, 1, 1);
        forecastIs("two", x, 0, 2, 11, 2);
        forecastIs("three", x, 0, 3, 37, 1);
        forecastIs("four", x, 0, 4, 1_111, 4);
        forecastIs("five, not the sixth", x, 0, 5, 11_111, 5);
        forecastIs("from the other end", x, 29, 1, 100_000, 1);
        forecastIs("five from the other end", x, 29, 5, 22_222, 1);
        Counted y = scored(100_000, 10_000, 1_000, 100, 10, 1);
        forecastIs("nearer ones come later", y, 29, 2, 11, 2);
        forecastIs("nearer ones come later, five", y, 29, 5, 11_111, 5);
    }

    private static void fewerThanK() {
        forecastIs("one, k 5", scored(7), 20, 5, 7, 1);
        forecastIs("two, k 5", scored(7, 8), 20, 5, 15, 2);
        forecastIs("four, k 5", scored(7, 8, 9, 9), 20, 5, 33, 4);
        forecastIs("five, k 5", scored(7, 8, 9, 9, 9), 20, 5, 42, 5);
        forecastIs("one, k 2", scored(7), 20, 2, 7, 1);
    }

    private static void ofLikeOnesTheLesserNumber() {
        Counted x = Make.line();
        int[] points = {10, 20, 10, 12, 29};
        int[] scores = {100, 7, 31, 1000, -5};
        for (int t = 0; t < points.length; t++) {
            x.trial(0, points[t]);
            x.score(t, scores[t], true);
        }
        forecastIs("0 and 2 at the POINT", x, 10, 1, 100, 1);
        forecastIs("0, 2 and 3 one away", x, 11, 1, 100, 1);
        forecastIs("0 and 2 of 0, 2 and 3", x, 11, 2, 131, 2);
        forecastIs("1 and 3 four away", x, 16, 1, 7, 1);
        forecastIs("and both", x, 16, 2, 1007, 2);
        Counted y = Make.line();
        for (int t = 0; t < 7; t++) {
            y.trial(0, 4);
        }
        for (int t = 6; t >= 0; t--) {
            y.score(t, 1 << t, true);
        }
        forecastIs("the first five of seven", y, 4, 5, 31, 5);
    }

    private static void scoredOnesAlone() {
        Counted x = Make.line();
        for (int t = 0; t < 5; t++) {
            x.trial(0, 11);
        }
        x.trial(0, 20);
        x.score(5, 6, true);
        x.score(0, 99, false);
        x.report(1, 9, 0);
        x.report(2, 8, 1);
        forecastIs("OPEN, FAILED and PRUNED ones at the POINT", x, 11, 5, 6, 1);
        x.score(3, 1, true);
        forecastIs("and a SCORED one", x, 11, 1, 1, 1);
    }

    private static void lowestTerms() {
        forecastIs("0", scored(-3, 3), 0, 2, 0, 1);
        forecastIs("0 by 5", scored(0, 0, 0, 0, 0), 0, 5, 0, 1);
        forecastIs("10 by 5", scored(2, 2, 2, 2, 2), 0, 5, 2, 1);
        forecastIs("6 by 4", scored(0, 1, 2, 3), 0, 4, 3, 2);
        forecastIs("-6 by 4", scored(0, -1, -2, -3), 0, 4, -3, 2);
        forecastIs("-9 by 3", scored(-3, 3, -9), 0, 3, -3, 1);
        forecastIs("-7 by 5", scored(-3, 3, -9, 1, 1), 0, 5, -7, 5);
        forecastIs("-8 by 4", scored(-3, 3, -9, 1), 0, 4, -2, 1);
        forecastIs("1 by 4", scored(1, 0, 0, 0), 0, 4, 1, 4);
        forecastIs("2 by 4", scored(2, 0, 0, 0), 0, 4, 1, 2);
    }

    private static void greatestSums() {
        int most = 1_000_000;
        forecastIs("five of the most", scored(most, most, most, most, most), 0, 5, most, 1);
        forecastIs("five of the least", scored(-most, -most, -most, -most, -most), 0, 5, -most, 1);
        forecastIs("one less", scored(most, most, most, most, most - 1), 0, 5, 4_999_999, 5);
        forecastIs("one more", scored(-most, -most, -most, -most, 1 - most), 0, 5, -4_999_999, 5);
    }

    /** FORECASTS of -1 and -2 are answers like any other; refusals lie 10^18 lower. */
    private static void notCutAtMinusOneAndTwo() {
        forecastIs("-1", scored(-1), 0, 1, -1, 1);
        forecastIs("-2", scored(-2), 0, 1, -2, 1);
    }

    private static void emptySpace() {
        Counted x = new Counted();
        x.trial(0, 0);
        x.trial(0, 0);
        x.score(0, 4, true);
        x.score(1, 5, true);
        forecastIs("the only POINT", x, 0, 1, 4, 1);
        forecastIs("the only POINT, k 2", x, 0, 2, 9, 2);
        CHECK.due("POINT 1", x.forecast(1, 1, 0), BAD);
    }

    private static void theFirstOfSeveral() {
        asked(Scene.NEW, "BAD POINT ahead of NONE", x -> x.forecast(1, 1, 0), BAD);
        asked(Scene.NEW, "BAD POINT ahead of NONE", x -> x.forecast(-1, 1, 0), BAD);
        asked(Scene.NEW, "BAD k ahead of NONE", x -> x.forecast(0, 0, 0), BAD);
        asked(Scene.NEW, "BAD k ahead of NONE", x -> x.forecast(0, 6, 0), BAD);
        asked(Scene.NEW, "BAD side ahead of NONE", x -> x.forecast(0, 1, 2), BAD);
        asked(Scene.NEW, "BAD side ahead of NONE", x -> x.forecast(0, 1, -1), BAD);
        asked(Scene.NO_SCORES, "BAD POINT ahead of NONE", x -> x.forecast(65, 1, 0), BAD);
    }
}
