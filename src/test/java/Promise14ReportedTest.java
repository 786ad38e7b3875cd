/** Promise 14: reported. */
public final class Promise14ReportedTest {
    private static final int NO_SUCH = -2_000_000;
    private static final int LEAST = Integer.MIN_VALUE, GREATEST = Integer.MAX_VALUE;
    private static final Check CHECK = new Check("Promise 14, reported");

    public static void main(String[] args) {
        stepFrom0ToTheLastReported();
        theTwentiethStep();
        trialFrom0ToTheLast();
        leastAndMost();
        inAnyState();
        refusedReportsAreNotKept();
        CHECK.end();
    }

    private static void asked(Scene scene, String text, Scene.Call call, long due) {
        Unchanged.by(CHECK, scene, text, call, due);
    }

    private static void stepFrom0ToTheLastReported() {
        asked(Scene.BUSY, "STEP 0", x -> x.reported(3, 0), 5);
        asked(Scene.BUSY, "STEP 1, the last", x -> x.reported(3, 1), 6);
        for (int step : new int[] {-1, 2, 19, 20, LEAST, GREATEST}) {
            asked(Scene.BUSY, "STEP " + step, x -> x.reported(3, step), NO_SUCH);
        }
        asked(Scene.BUSY, "no REPORTS", x -> x.reported(6, 0), NO_SUCH);
    }

    private static void theTwentiethStep() {
        Counted x = Scene.FULL.play();
        for (int step = 0; step < 20; step++) {
            CHECK.due("STEP " + step, x.reported(5, step), step);
        }
        for (int step : new int[] {-1, 20, 21, LEAST, GREATEST}) {
            asked(Scene.FULL, "of 20, STEP " + step, y -> y.reported(5, step), NO_SUCH);
        }
        Counted z = Make.trials(60);
        for (int step = 0; step < 20; step++) {
            z.report(59, -step, 0);
        }
        CHECK.due("the last TRIAL's last STEP", z.reported(59, 19), -19);
    }

    private static void trialFrom0ToTheLast() {
        asked(Scene.BUSY, "the TRIAL behind", x -> x.reported(4, 0), 4);
        for (int t : new int[] {-1, 8, 59, 60, LEAST, GREATEST}) {
            asked(Scene.BUSY, "TRIAL " + t, x -> x.reported(t, 0), NO_SUCH);
        }
        asked(Scene.NEW, "no TRIALS", x -> x.reported(0, 0), NO_SUCH);
        asked(Scene.FULL, "TRIAL 60", x -> x.reported(60, 0), NO_SUCH);
        asked(Scene.FULL, "neither TRIAL nor STEP", x -> x.reported(60, 20), NO_SUCH);
    }

    private static void leastAndMost() {
        Counted x = Make.trials(1);
        x.report(0, -1_000_000, 0);
        x.report(0, 1_000_000, 0);
        x.report(0, 0, 0);
        CHECK.due("the least", x.reported(0, 0), -1_000_000);
        CHECK.due("the most", x.reported(0, 1), 1_000_000);
        CHECK.due("0 is a REPORT", x.reported(0, 2), 0);
        CHECK.due("and no such is not 0", x.reported(0, 3), NO_SUCH);
    }

    private static void inAnyState() {
        Counted x = Make.trials(3);
        for (int t = 0; t < 3; t++) {
            x.report(t, 9 - t, t == 2 ? 1 : 0);
        }
        x.score(0, 1, true);
        x.score(1, 1, false);
        for (int t = 0; t < 3; t++) {
            CHECK.due("SCORED, FAILED, PRUNED: " + t, x.reported(t, 0), 9 - t);
        }
    }

    private static void refusedReportsAreNotKept() {
        Counted x = Make.trials(1);
        x.report(0, 1_000_001, 0);
        x.report(0, 5, 61);
        CHECK.due("BAD", x.reported(0, 0), NO_SUCH);
        x.score(0, 1, true);
        x.report(0, 5, 0);
        CHECK.due("NOT", x.reported(0, 0), NO_SUCH);
        Counted y = Scene.FULL.play();
        y.report(5, 77, 0);
        CHECK.due("FULL", y.reported(5, 19), 19);
    }
}
