/** Promise 10: score. */
public final class Promise10ScoreTest {
    private static final int BAD = -1, NOT = -3;
    private static final int LEAST = Integer.MIN_VALUE, GREATEST = Integer.MAX_VALUE;
    private static final Check CHECK = new Check("Promise 10, score");

    public static void main(String[] args) {
        howManyAreScored();
        trialFrom0ToTheLast();
        scoreFromLeastToMost();
        failedWhateverV();
        notOpen();
        openOnesOfAnyKind();
        theFirstOfSeveral();
        CHECK.end();
    }

    private static void refused(Scene scene, String text, Scene.Call call, long due) {
        Unchanged.by(CHECK, scene, text, call, due);
    }

    private static void howManyAreScored() {
        Counted x = Make.trials(5);
        CHECK.due("none, one FAILED", x.score(4, 3, false), 0);
        CHECK.due("the first", x.score(3, 3, true), 1);
        CHECK.due("the second", x.score(1, 3, true), 2);
        CHECK.due("still two", x.score(0, 3, false), 2);
        CHECK.due("the third", x.score(2, 0, true), 3);
        int[] states = {2, 1, 1, 1, 2};
        int[] scores = {0, 3, 0, 3, 0};
        for (int t = 0; t < 5; t++) {
            CHECK.due("STATE of " + t, x.told(t, 0), states[t]);
            CHECK.due("SCORE of " + t, x.told(t, 1), scores[t]);
        }
        Counted y = Make.trials(60);
        for (int t = 0; t < 60; t++) {
            CHECK.due("of 60", y.score(t, t, true), t + 1);
        }
    }

    private static void trialFrom0ToTheLast() {
        CHECK.due("TRIAL 0", Make.trials(3).score(0, 1, true), 1);
        CHECK.due("the last TRIAL", Make.trials(3).score(2, 1, true), 1);
        CHECK.due("TRIAL 59", Scene.FULL.play().score(59, 1, true), 3);
        for (int t : new int[] {-1, 8, 59, 60, LEAST, GREATEST}) {
            refused(Scene.BUSY, "TRIAL " + t, x -> x.score(t, 1, true), BAD);
            refused(Scene.BUSY, "TRIAL " + t + ", failing", x -> x.score(t, 1, false), BAD);
        }
        refused(Scene.NEW, "no TRIALS", x -> x.score(0, 1, true), BAD);
        refused(Scene.FULL, "TRIAL 60", x -> x.score(60, 1, true), BAD);
    }

    private static void scoreFromLeastToMost() {
        Counted x = Make.trials(2);
        CHECK.due("10^6", x.score(0, 1_000_000, true), 1);
        CHECK.due("- 10^6", x.score(1, -1_000_000, true), 2);
        CHECK.due("10^6 is kept", x.told(0, 1), 1_000_000);
        CHECK.due("- 10^6 is kept", x.told(1, 1), -1_000_000);
        for (int v : new int[] {1_000_001, -1_000_001, LEAST, GREATEST}) {
            refused(Scene.BUSY, "v " + v, y -> y.score(5, v, true), BAD);
        }
    }

    private static void failedWhateverV() {
        for (int v : new int[] {0, 1_000_000, 1_000_001, -1_000_001, LEAST, GREATEST}) {
            Counted x = Scene.BUSY.play();
            CHECK.due("failing, v " + v, x.score(5, v, false), 2);
            CHECK.due("FAILED, v " + v, x.told(5, 0), 2);
            CHECK.due("no SCORE, v " + v, x.told(5, 1), 0);
        }
    }

    /** Of BUSY's TRIALS 0 and 1 are SCORED, 2 is FAILED, 4 PRUNED. */
    private static void notOpen() {
        for (int t : new int[] {0, 1, 2, 4}) {
            refused(Scene.BUSY, "TRIAL " + t, x -> x.score(t, 99, true), NOT);
            refused(Scene.BUSY, "TRIAL " + t + ", failing", x -> x.score(t, 99, false), NOT);
        }
    }

    private static void openOnesOfAnyKind() {
        CHECK.due("with REPORTS", Scene.BUSY.play().score(3, 1, true), 3);
        CHECK.due("with all REPORTS", Scene.FULL.play().score(5, 1, true), 3);
        CHECK.due("by GUESS", Scene.BUSY.play().score(7, 1, true), 3);
        Counted x = Scene.BUSY.play();
        x.score(3, 1, true);
        CHECK.due("the REPORTS stay", x.told(3, 2), 2);
        CHECK.due("it stays IN", x.told(3, 4), 1);
        CHECK.due("the ROUND goes on", x.result(1, 0, true), 0);
    }

    private static void theFirstOfSeveral() {
        refused(Scene.BUSY, "BAD v ahead of NOT", x -> x.score(0, 1_000_001, true), BAD);
        refused(Scene.BUSY, "BAD v ahead of NOT", x -> x.score(4, -1_000_001, true), BAD);
        refused(Scene.BUSY, "no BAD v when it fails", x -> x.score(2, 1_000_001, false), NOT);
    }
}
