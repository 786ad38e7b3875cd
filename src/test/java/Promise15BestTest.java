/** Promise 15: best. */
public final class Promise15BestTest {
    private static final int NONE = -2;
    private static final Check CHECK = new Check("Promise 15, best");

    public static void main(String[] args) {
        noneWithoutScoredTrials();
        theGreatest();
        theFirstOfLikeOnes();
        leastAndMost();
        othersDoNotCount();
        firstAndLastTrial();
        CHECK.end();
    }

    private static void noneWithoutScoredTrials() {
        Unchanged.by(CHECK, Scene.NEW, "no TRIALS", x -> x.best(), NONE);
        Unchanged.by(CHECK, Scene.OVER, "OPEN ones", x -> x.best(), NONE);
        Unchanged.by(CHECK, Scene.NO_SCORES, "TRIALS of each other STATE", x -> x.best(), NONE);
        Counted y = Make.trials(3);
        y.score(0, 9, false);
        CHECK.due("a FAILED one", y.best(), NONE);
        y.report(1, 9, 0);
        y.report(2, 8, 1);
        CHECK.due("a PRUNED one", y.best(), NONE);
        y.score(1, 1_000_001, true);
        CHECK.due("a refused SCORE", y.best(), NONE);
    }

    private static void theGreatest() {
        Unchanged.by(CHECK, Scene.BUSY, "of 50 and -7", x -> x.best(), 0);
        Counted y = Make.trials(4);
        int[] scores = {3, 5, 4, 6};
        int[] due = {0, 1, 1, 3};
        for (int t = 0; t < 4; t++) {
            y.score(t, scores[t], true);
            CHECK.due("with " + scores[t], y.best(), due[t]);
        }
    }

    private static void theFirstOfLikeOnes() {
        Counted x = Make.trials(4);
        x.score(3, 5, true);
        CHECK.due("the only one", x.best(), 3);
        x.score(2, 5, true);
        CHECK.due("a like one ahead of it", x.best(), 2);
        x.score(0, 4, true);
        CHECK.due("a lesser one ahead of it", x.best(), 2);
        x.score(1, 5, true);
        CHECK.due("the first of three", x.best(), 1);
    }

    private static void leastAndMost() {
        Counted x = Make.trials(4);
        x.score(2, -1_000_000, true);
        CHECK.due("the least there is", x.best(), 2);
        x.score(0, -999_999, true);
        CHECK.due("one more", x.best(), 0);
        x.score(3, 1_000_000, true);
        CHECK.due("the most", x.best(), 3);
        x.score(1, 999_999, true);
        CHECK.due("one less", x.best(), 3);
    }

    private static void othersDoNotCount() {
        Counted x = Make.trials(5);
        x.score(3, -5, true);
        x.score(0, 9, false);
        x.report(1, 9, 0);
        x.report(2, 8, 1);
        x.bracket(0, 5, 1, 2);
        x.result(4, 99, true);
        CHECK.due("OPEN, FAILED, PRUNED ones and a RESULT", x.best(), 3);
    }

    private static void firstAndLastTrial() {
        Counted x = Make.trials(60);
        x.score(59, -3, true);
        CHECK.due("TRIAL 59", x.best(), 59);
        x.score(0, -3, true);
        CHECK.due("TRIAL 0", x.best(), 0);
    }
}
