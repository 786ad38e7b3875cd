/** Promise 11: report. */
public final class Promise11ReportTest {
    private static final int BAD = -1, NOT = -3, FULL = -4;
    private static final int LEAST = Integer.MIN_VALUE, GREATEST = Integer.MAX_VALUE;
    private static final Check CHECK = new Check("Promise 11, report");

    public static void main(String[] args) {
        theStepItWasFor();
        trialFrom0ToTheLast();
        reportFromLeastToMost();
        mFrom0To60();
        notOpen();
        fullWith20Reports();
        belowTheMiddle();
        middleOfOneAndTwo();
        lowerMiddleOfAnEvenNumber();
        mOrMoreOthers();
        fiftyNineOthers();
        othersOfAnyState();
        itsOwnDoNotCount();
        eachStepByItself();
        prunedAtTheLastStep();
        prunedKeepsItsReport();
        m0NeverPrunes();
        theFirstOfSeveral();
        CHECK.end();
    }

    private static void refused(Scene scene, String text, Scene.Call call, long due) {
        Unchanged.by(CHECK, scene, text, call, due);
    }

    /** TRIALS with a REPORT for STEP 0 each, and one more without. */
    private static Counted reports(int... reports) {
        Counted x = Make.trials(reports.length + 1);
        for (int t = 0; t < reports.length; t++) {
            x.report(t, reports[t], 0);
        }
        return x;
    }

    /** Whether the next one's REPORT prunes it. */
    private static void prunes(String text, int v, int m, boolean due, int... others) {
        CHECK.due(text, reports(others).report(others.length, v, m), due ? -10 : 0);
    }

    private static void theStepItWasFor() {
        Counted x = Make.trials(2);
        for (int step = 0; step < 20; step++) {
            CHECK.due("STEP " + step, x.report(0, step - 10, 0), step);
        }
        CHECK.due("another's STEPS", x.report(1, 7, 0), 0);
        CHECK.due("kept", x.reported(1, 0), 7);
    }

    private static void trialFrom0ToTheLast() {
        CHECK.due("TRIAL 0", Make.trials(3).report(0, 1, 0), 0);
        CHECK.due("the last TRIAL", Make.trials(3).report(2, 1, 0), 0);
        CHECK.due("TRIAL 59", Scene.FULL.play().report(59, 1, 0), 0);
        for (int t : new int[] {-1, 8, 59, 60, LEAST, GREATEST}) {
            refused(Scene.BUSY, "TRIAL " + t, x -> x.report(t, 1, 0), BAD);
        }
        refused(Scene.NEW, "no TRIALS", x -> x.report(0, 1, 0), BAD);
        refused(Scene.FULL, "TRIAL 60", x -> x.report(60, 1, 0), BAD);
    }

    private static void reportFromLeastToMost() {
        Counted x = Make.trials(1);
        CHECK.due("10^6", x.report(0, 1_000_000, 0), 0);
        CHECK.due("- 10^6", x.report(0, -1_000_000, 0), 1);
        CHECK.due("10^6 is kept", x.reported(0, 0), 1_000_000);
        CHECK.due("- 10^6 is kept", x.reported(0, 1), -1_000_000);
        for (int v : new int[] {1_000_001, -1_000_001, LEAST, GREATEST}) {
            refused(Scene.BUSY, "v " + v, y -> y.report(5, v, 0), BAD);
            refused(Scene.BUSY, "v " + v + ", m 1", y -> y.report(5, v, 1), BAD);
        }
    }

    private static void mFrom0To60() {
        for (int m : new int[] {0, 1, 2, 59, 60}) {
            CHECK.due("m " + m, Make.trials(1).report(0, 5, m), 0);
        }
        for (int m : new int[] {-1, 61, LEAST, GREATEST}) {
            refused(Scene.BUSY, "m " + m, x -> x.report(5, 5, m), BAD);
        }
    }

    /** Of BUSY's TRIALS 0 and 1 are SCORED, 2 is FAILED, 4 PRUNED. */
    private static void notOpen() {
        for (int t : new int[] {0, 1, 2, 4}) {
            refused(Scene.BUSY, "TRIAL " + t, x -> x.report(t, 5, 0), NOT);
            refused(Scene.BUSY, "TRIAL " + t + ", m 1", x -> x.report(t, -5, 1), NOT);
        }
    }

    private static void fullWith20Reports() {
        Counted x = Make.trials(1);
        for (int step = 0; step < 19; step++) {
            x.report(0, step, 0);
        }
        CHECK.due("the twentieth", x.report(0, 5, 0), 19);
        CHECK.due("the twenty-first", x.report(0, 5, 0), FULL);
        refused(Scene.FULL, "the twenty-first", y -> y.report(5, 5, 0), FULL);
        refused(Scene.FULL, "the twenty-first, m 1", y -> y.report(5, -5, 1), FULL);
    }

    private static void belowTheMiddle() {
        prunes("above the middle", 21, 3, false, 30, 10, 20);
        prunes("like the middle", 20, 3, false, 30, 10, 20);
        prunes("just below the middle", 19, 3, true, 30, 10, 20);
        prunes("the least", -1_000_000, 3, true, 30, 10, 20);
        prunes("like the least possible", -1_000_000, 1, false, -1_000_000);
        prunes("below 0, like", -7, 3, false, -7, -90, 4);
        prunes("below 0, below", -8, 3, true, -7, -90, 4);
        prunes("many alike, like", 5, 5, false, 5, 5, 5, 5, 5);
        prunes("many alike, below", 4, 5, true, 5, 5, 5, 5, 5);
    }

    private static void middleOfOneAndTwo() {
        prunes("like one", 8, 1, false, 8);
        prunes("below one", 7, 1, true, 8);
        prunes("like the lower of two", 3, 1, false, 8, 3);
        prunes("below the lower of two", 2, 1, true, 8, 3);
    }

    private static void lowerMiddleOfAnEvenNumber() {
        prunes("like the lower of both", 20, 4, false, 40, 10, 30, 20);
        prunes("between both", 29, 4, false, 40, 10, 30, 20);
        prunes("below the lower of both", 19, 4, true, 40, 10, 30, 20);
        prunes("of six, like", 3, 1, false, 6, 5, 4, 3, 2, 1);
        prunes("of six, below", 2, 1, true, 6, 5, 4, 3, 2, 1);
    }

    private static void mOrMoreOthers() {
        prunes("none of 1", -9, 1, false);
        prunes("1 of 2", -9, 2, false, 5);
        prunes("2 of 2", -9, 2, true, 5, 5);
        prunes("3 of 2", -9, 2, true, 5, 5, 5);
        prunes("4 of 5", -9, 5, false, 5, 5, 5, 5);
        prunes("5 of 5", -9, 5, true, 5, 5, 5, 5, 5);
        prunes("5 of 60", -9, 60, false, 5, 5, 5, 5, 5);
    }

    private static void fiftyNineOthers() {
        int[] falling = new int[59];
        for (int i = 0; i < 59; i++) {
            falling[i] = 100 - i;
        }
        // 42 .. 100: the middle one is 71
        prunes("59 of 59, like", 71, 59, false, falling);
        prunes("59 of 59, below", 70, 59, true, falling);
        prunes("59 of 58, below", 70, 58, true, falling);
        prunes("59 of 60", 0, 60, false, falling);
    }

    private static void othersOfAnyState() {
        Counted x = reports(10, 10, 10, 10);
        x.report(4, 9, 4);
        x.score(0, 5, true);
        x.score(1, 5, false);
        x.trial(0, 0);
        x.trial(0, 0);
        CHECK.due("SCORED, FAILED, PRUNED and two OPEN: not six", x.report(5, 9, 6), 0);
        CHECK.due("with the last one's they are six", x.report(6, 9, 6), -10);
    }

    private static void itsOwnDoNotCount() {
        Counted x = Make.trials(2);
        x.report(0, 50, 0);
        CHECK.due("its own REPORT for STEP 0", x.report(0, 1, 1), 1);
        CHECK.due("like another's for STEP 0", x.report(1, 50, 1), 0);
        CHECK.due("another's for STEP 1 and its own for STEP 0 are not two", x.report(1, 0, 2), 1);
        CHECK.due("its own for STEPS 0 and 1", x.report(1, -9, 1), 2);
    }

    private static void eachStepByItself() {
        Counted x = Make.trials(3);
        int[] first = {100, 1, 50};
        int[] second = {1, 100, 50};
        for (int step = 0; step < 3; step++) {
            x.report(0, first[step], 0);
            x.report(1, second[step], 0);
        }
        CHECK.due("STEP 0, lower of 1 and 100", x.report(2, 1, 2), 0);
        CHECK.due("STEP 1, lower of 1 and 100", x.report(2, 1, 2), 1);
        CHECK.due("STEP 2, both 50", x.report(2, 49, 2), -12);
        Counted y = Make.trials(3);
        y.report(0, 5, 0);
        y.report(1, 5, 0);
        y.report(0, 5, 0);
        CHECK.due("STEP 0 has two", y.report(2, 5, 2), 0);
        CHECK.due("STEP 1 has one", y.report(2, 0, 2), 1);
        CHECK.due("STEP 2 has none", y.report(2, 0, 1), 2);
    }

    private static void prunedAtTheLastStep() {
        Counted x = Make.trials(2);
        for (int step = 0; step < 20; step++) {
            x.report(0, 5, 0);
        }
        for (int step = 0; step < 19; step++) {
            x.report(1, 5, 1);
        }
        CHECK.due("- 10 less 19", x.report(1, 4, 1), -29);
        CHECK.due("PRUNED", x.told(1, 0), 3);
        CHECK.due("NOT, though it has all REPORTS", x.report(1, 4, 1), NOT);
    }

    private static void prunedKeepsItsReport() {
        Counted x = reports(8);
        CHECK.due("- 10 less 0", x.report(1, 7, 1), -10);
        CHECK.due("STATE 3", x.told(1, 0), 3);
        CHECK.due("its REPORT", x.reported(1, 0), 7);
        CHECK.due("how many REPORTS", x.told(1, 2), 1);
        CHECK.due("no SCORE", x.told(1, 1), 0);
        CHECK.due("another is OPEN", x.told(0, 0), 0);
        CHECK.due("no more REPORTS", x.report(1, 9, 0), NOT);
    }

    private static void m0NeverPrunes() {
        prunes("m 0", -1_000_000, 0, false, 5, 5, 5, 5);
        Counted x = reports(8);
        x.report(1, 7, 0);
        CHECK.due("still OPEN", x.told(1, 0), 0);
    }

    private static void theFirstOfSeveral() {
        refused(Scene.BUSY, "BAD v ahead of NOT", x -> x.report(0, 1_000_001, 0), BAD);
        refused(Scene.BUSY, "BAD m ahead of NOT", x -> x.report(0, 0, 61), BAD);
        refused(Scene.FULL, "BAD v ahead of FULL", x -> x.report(5, -1_000_001, 0), BAD);
        refused(Scene.FULL, "BAD m ahead of FULL", x -> x.report(5, 0, -1), BAD);
        Scene closed = Scene.FULL.then(x -> x.score(5, 1, true));
        refused(closed, "NOT ahead of FULL", x -> x.report(5, 0, 0), NOT);
        refused(closed, "BAD ahead of NOT and FULL", x -> x.report(5, 0, 61), BAD);
    }
}
