/** Promise 8: guess. */
public final class Promise08GuessTest {
    private static final int BAD = -1, FULL = -4;
    private static final int LEAST = Integer.MIN_VALUE, GREATEST = Integer.MAX_VALUE;
    private static final Check CHECK = new Check("Promise 8, guess");

    public static void main(String[] args) {
        candidatesFrom1To40();
        theLastCandidateIsLookedAt();
        kFrom1To5();
        eachKOfItsOwn();
        candidate0WithoutScoredTrials();
        theFirstOfLikeOnes();
        forecastsBelow0();
        oneCandidate();
        emptyAndGreatestSpace();
        aNewTrial();
        fullWith60Trials();
        theFirstOfSeveral();
        CHECK.end();
    }

    private static void refused(Scene scene, String text, Scene.Call call, long due) {
        Unchanged.by(CHECK, scene, text, call, due);
    }

    /** All 30 POINTS of the line SCORED, POINT p with p: a FORECAST with k = 1 is the POINT's number. */
    private static Counted rising() {
        Counted x = Make.trials(30);
        for (int t = 0; t < 30; t++) {
            x.score(t, t, true);
        }
        return x;
    }

    private static void candidatesFrom1To40() {
        CHECK.due("1 CANDIDATE", Make.line().guess(1, 1, 1), 0);
        CHECK.due("40 CANDIDATES", Make.line().guess(1, 40, 1), 0);
        for (int c : new int[] {0, 41, -1, LEAST, GREATEST}) {
            refused(Scene.NEW, c + " CANDIDATES", x -> x.guess(1, c, 1), BAD);
            refused(Scene.BUSY, c + " CANDIDATES", x -> x.guess(1, c, 1), BAD);
        }
    }

    /** The first CANDIDATE at POINT 29 is number 1 with seed 27, number 39 with seed 53, number 40 with seed 418. */
    private static void theLastCandidateIsLookedAt() {
        Counted x = rising();
        CHECK.due("number 1 of 2", x.point(x.guess(27, 2, 1)), 29);
        CHECK.due("number 1 is none of 1", x.point(x.guess(27, 1, 1)), 11);
        CHECK.due("number 39 of 40", x.point(x.guess(53, 40, 1)), 29);
        CHECK.due("number 39 is none of 39", x.point(x.guess(53, 39, 1)), 28);
        CHECK.due("number 40 is none of 40", x.point(x.guess(418, 40, 1)), 28);
    }

    private static void kFrom1To5() {
        CHECK.due("k 1", Make.line().guess(1, 1, 1), 0);
        CHECK.due("k 5", Make.line().guess(1, 1, 5), 0);
        for (int k : new int[] {0, 6, -1, LEAST, GREATEST}) {
            refused(Scene.NEW, "k " + k, x -> x.guess(1, 1, k), BAD);
            refused(Scene.BUSY, "k " + k, x -> x.guess(1, 1, k), BAD);
        }
    }

    private static void eachKOfItsOwn() {
        int[] points = {0, 3, 7, 7, 11, 14, 18, 20, 21, 25, 28, 29};
        int[] scores = {-50, -28, 28, 17, 40, -4, -14, 10, -33, -42, -17, 42};
        int[] seeds = {4, -4, GREATEST, LEAST, 1000};
        int[][] due = {{12, 10, 10, 12, 12}, {12, 10, 8, 12, 13}, {29, 10, 10, 10, 12}, {29, 6, 8, 12, 12},
            {12, 10, 8, 9, 12}};
        Counted x = Make.line();
        for (int t = 0; t < points.length; t++) {
            x.trial(0, points[t]);
            x.score(t, scores[t], true);
        }
        for (int i = 0; i < seeds.length; i++) {
            for (int k = 1; k <= 5; k++) {
                CHECK.due("seed " + seeds[i] + ", k " + k, x.point(x.guess(seeds[i], 25, k)), due[i][k - 1]);
            }
        }
    }

    private static void candidate0WithoutScoredTrials() {
        int[] seeds = {42, 0, -1, GREATEST, LEAST};
        int[] due = {2, 18, 27, 4, 6};
        for (int i = 0; i < seeds.length; i++) {
            Counted x = Make.line();
            CHECK.due("no TRIALS, seed " + seeds[i], x.point(x.guess(seeds[i], 40, 5)), due[i]);
            CHECK.due("an OPEN one, seed " + seeds[i], x.point(x.guess(seeds[i], 40, 5)), due[i]);
            x.score(0, 1_000_000, false);
            CHECK.due("a FAILED one, seed " + seeds[i], x.point(x.guess(seeds[i], 40, 5)), due[i]);
            x.report(1, 5, 0);
            x.report(2, 4, 1);
            CHECK.due("a PRUNED one, seed " + seeds[i], x.point(x.guess(seeds[i], 40, 5)), due[i]);
        }
    }

    private static void theFirstOfLikeOnes() {
        Counted x = Make.trials(3);
        x.score(1, -4, true);
        CHECK.due("one SCORED: all alike", x.point(x.guess(42, 40, 3)), 2);
        Counted y = Make.trials(30);
        for (int t = 0; t < 30; t++) {
            y.score(t, 7, true);
        }
        CHECK.due("all SCORED alike", y.point(y.guess(0, 40, 1)), 18);
    }

    private static void forecastsBelow0() {
        Counted x = Make.trials(30);
        for (int t = 0; t < 30; t++) {
            x.score(t, t - 1_000_000, true);
        }
        CHECK.due("the greatest below 0", x.point(x.guess(53, 40, 1)), 29);
    }

    private static void oneCandidate() {
        Counted x = rising();
        CHECK.due("CANDIDATE 0, whatever its FORECAST", x.point(x.guess(42, 1, 1)), 2);
    }

    private static void emptyAndGreatestSpace() {
        Counted x = new Counted();
        x.trial(0, 0);
        x.score(0, 5, true);
        CHECK.due("the only POINT", x.point(x.guess(3, 40, 5)), 0);
        int[] seeds = {42, 0, -1, GREATEST, LEAST};
        long[] due = {79_573_581_307L, 630_457_306_684L, 63_276_861_234L, 160_751_048_391L, 225_492_773_107L};
        for (int i = 0; i < seeds.length; i++) {
            Counted y = Make.names(8, 30);
            CHECK.due("of 30^8, seed " + seeds[i], y.point(y.guess(seeds[i], 40, 5)), due[i]);
        }
    }

    private static void aNewTrial() {
        Counted x = Scene.BUSY.play();
        CHECK.due("the next number", x.guess(9, 3, 2), 8);
        for (int what = 0; what < 5; what++) {
            CHECK.due("OPEN, without SCORE, REPORTS, RESULT and not IN: " + what, x.told(8, what), 0);
        }
    }

    private static void fullWith60Trials() {
        Counted x = Make.trials(59);
        CHECK.due("the 60th", x.guess(1, 40, 5), 59);
        CHECK.due("the 61st", x.guess(1, 40, 5), FULL);
        refused(Scene.FULL, "the 61st", y -> y.guess(1, 40, 5), FULL);
        refused(Scene.FULL, "the 61st with 1 CANDIDATE", y -> y.guess(-1, 1, 1), FULL);
    }

    private static void theFirstOfSeveral() {
        refused(Scene.FULL, "BAD CANDIDATES ahead of FULL", x -> x.guess(1, 41, 5), BAD);
        refused(Scene.FULL, "BAD CANDIDATES ahead of FULL", x -> x.guess(1, 0, 5), BAD);
        refused(Scene.FULL, "BAD k ahead of FULL", x -> x.guess(1, 40, 6), BAD);
        refused(Scene.FULL, "BAD k ahead of FULL", x -> x.guess(1, 40, 0), BAD);
    }
}
