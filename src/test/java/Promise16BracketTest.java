/** Promise 16: bracket. */
public final class Promise16BracketTest {
    private static final int BAD = -1, NONE = -2, NOT = -3;
    private static final int LEAST = Integer.MIN_VALUE, GREATEST = Integer.MAX_VALUE;
    private static final Check CHECK = new Check("Promise 16, bracket");

    public static void main(String[] args) {
        fromAndNWithinTheTrials();
        nFrom1To60();
        budgetFrom1ToAMillion();
        factorFrom2To5();
        allAreIn();
        trialsOfAnyState();
        inPlaceOfOneThatWas();
        noTrials();
        CHECK.end();
    }

    private static void refused(Scene scene, String text, Scene.Call call) {
        Unchanged.by(CHECK, scene, text, call, BAD);
    }

    /** BUSY has TRIALS 0 .. 7. */
    private static void fromAndNWithinTheTrials() {
        CHECK.due("0 .. 7", Scene.BUSY.play().bracket(0, 8, 1, 2), 1);
        CHECK.due("7 alone", Scene.BUSY.play().bracket(7, 1, 1, 2), 1);
        CHECK.due("3 .. 7", Scene.BUSY.play().bracket(3, 5, 1, 2), 1);
        int[][] none = {{-1, 1}, {-1, 2}, {8, 1}, {0, 9}, {7, 2}, {3, 6}, {60, 1}, {LEAST, 1}, {LEAST, 60},
            {GREATEST, 1}, {GREATEST, 60}, {GREATEST, GREATEST}, {1, GREATEST}, {LEAST, LEAST}, {-52, 60}};
        for (int[] pair : none) {
            refused(Scene.BUSY, "from " + pair[0] + ", n " + pair[1], x -> x.bracket(pair[0], pair[1], 1, 2));
        }
    }

    private static void nFrom1To60() {
        CHECK.due("n 1", Scene.FULL.play().bracket(0, 1, 1, 2), 1);
        CHECK.due("n 60", Scene.FULL.play().bracket(0, 60, 1, 2), 1);
        CHECK.due("n 1, TRIAL 59", Scene.FULL.play().bracket(59, 1, 1, 2), 1);
        for (int n : new int[] {0, 61, -1, LEAST, GREATEST}) {
            refused(Scene.FULL, "n " + n, x -> x.bracket(0, n, 1, 2));
        }
        refused(Scene.FULL, "n 60 from 1", x -> x.bracket(1, 60, 1, 2));
        refused(Scene.FULL, "n 1 from 60", x -> x.bracket(60, 1, 1, 2));
        refused(Scene.BUSY, "n 0", x -> x.bracket(8, 0, 1, 2));
    }

    private static void budgetFrom1ToAMillion() {
        for (int budget : new int[] {1, 2, 999_999, 1_000_000}) {
            Counted x = Scene.BUSY.play();
            CHECK.due("BUDGET " + budget, x.bracket(0, 2, budget, 2), 1);
            CHECK.due("is kept, BUDGET " + budget, x.round(2), budget);
        }
        for (int budget : new int[] {0, 1_000_001, -1, LEAST, GREATEST}) {
            refused(Scene.BUSY, "BUDGET " + budget, x -> x.bracket(0, 2, budget, 2));
        }
    }

    private static void factorFrom2To5() {
        for (int factor = 2; factor <= 5; factor++) {
            CHECK.due("FACTOR " + factor, Scene.BUSY.play().bracket(0, 2, 1, factor), 1);
        }
        for (int factor : new int[] {1, 6, 0, -1, LEAST, GREATEST}) {
            refused(Scene.BUSY, "FACTOR " + factor, x -> x.bracket(0, 2, 1, factor));
        }
    }

    private static void allAreIn() {
        Counted x = Make.trials(5);
        x.bracket(1, 3, 4, 3);
        CHECK.holds("1, 2 and 3", Make.in(x, 5).equals("01110"));
        CHECK.due("three", x.round(0), 3);
        x.trial(0, 0);
        CHECK.due("one made later is not IN", x.told(5, 4), 0);
        CHECK.due("nor can it get a RESULT", x.result(5, 1, true), NOT);
        Counted y = Scene.FULL.play();
        y.bracket(59, 1, 1, 2);
        CHECK.holds("the last alone", Make.in(y, 60).equals("0".repeat(59) + "1"));
    }

    private static void trialsOfAnyState() {
        Counted x = Scene.BUSY.play();
        CHECK.due("of each STATE", x.bracket(0, 8, 1, 2), 1);
        for (int t = 0; t < 8; t++) {
            CHECK.due("RESULT of " + t, x.result(t, 1, true), 7 - t);
        }
    }

    private static void inPlaceOfOneThatWas() {
        Counted x = Scene.BUSY.play();
        CHECK.due("in place of it", x.bracket(2, 3, 7, 3), 1);
        CHECK.holds("others are IN", Make.in(x, 8).equals("00111000"));
        for (int t = 0; t < 8; t++) {
            CHECK.due("old RESULTS are gone: " + t, x.told(t, 3), 0);
        }
        int[] rounds = {3, 0, 7, 0};
        for (int what = 0; what < 4; what++) {
            CHECK.due("round " + what, x.round(what), rounds[what]);
        }
        CHECK.due("no COST yet", x.cost(), 0);
        CHECK.due("one that had a RESULT has none", x.result(2, 1, true), 2);
        CHECK.due("one that FAILED has not", x.result(3, 1, true), 1);
        CHECK.due("one that was IN is not", x.result(1, 1, true), NOT);
        CHECK.due("its own BUDGET", x.cost(), 14);
        Counted y = Scene.OVER.play();
        CHECK.due("in place of one that is over", y.bracket(0, 2, 1, 2), 1);
        CHECK.due("it is not over", y.round(3), 0);
        CHECK.due("one that had gone is IN", y.told(0, 4), 1);
    }

    private static void noTrials() {
        refused(Scene.NEW, "no TRIALS", x -> x.bracket(0, 1, 1, 2));
        refused(Scene.NEW, "no TRIALS, n 0", x -> x.bracket(0, 0, 1, 2));
        Counted x = Make.trials(3);
        x.bracket(0, 4, 1, 2);
        CHECK.due("refused ones make none", x.round(0), NONE);
    }
}
