/** Promise 19: round. */
public final class Promise19RoundTest {
    private static final int BAD = -1, NONE = -2;
    private static final int LEAST = Integer.MIN_VALUE, GREATEST = Integer.MAX_VALUE;
    private static final Check CHECK = new Check("Promise 19, round");

    public static void main(String[] args) {
        whatFrom0To3();
        noBracket();
        theFirstOfSeveral();
        aNewBracket();
        roundsOfTheGreatest();
        overWithNoneOrOne();
        resultsChangeNothingOfIt();
        CHECK.end();
    }

    private static void asked(Scene scene, String text, Scene.Call call, long due) {
        Unchanged.by(CHECK, scene, text, call, due);
    }

    private static void roundIs(String text, Counted x, int... due) {
        for (int what = 0; what < 4; what++) {
            CHECK.due(text + ", what " + what, x.round(what), due[what]);
        }
    }

    private static void whatFrom0To3() {
        int[] due = {3, 1, 18, 0};
        for (int what = 0; what < 4; what++) {
            int number = what;
            asked(Scene.BUSY, "what " + what, x -> x.round(number), due[what]);
        }
        for (int what : new int[] {-1, 4, LEAST, GREATEST}) {
            asked(Scene.BUSY, "what " + what, x -> x.round(what), BAD);
        }
    }

    private static void noBracket() {
        for (int what = 0; what < 4; what++) {
            int number = what;
            asked(Scene.NEW, "no BRACKET, what " + what, x -> x.round(number), NONE);
            asked(Scene.NO_BRACKET, "TRIALS and FOLDS, no BRACKET, what " + what, x -> x.round(number), NONE);
        }
        Counted y = Make.trials(2);
        y.bracket(0, 3, 1, 2);
        CHECK.due("a refused BRACKET", y.round(0), NONE);
    }

    private static void theFirstOfSeveral() {
        for (int what : new int[] {-1, 4, LEAST, GREATEST}) {
            asked(Scene.NEW, "BAD ahead of NONE, what " + what, x -> x.round(what), BAD);
        }
    }

    private static void aNewBracket() {
        Counted x = Make.trials(60);
        x.bracket(59, 1, 1, 2);
        roundIs("the least", x, 1, 0, 1, 0);
        x.bracket(0, 60, 1_000_000, 5);
        roundIs("the greatest", x, 60, 0, 1_000_000, 0);
        x.bracket(3, 2, 7, 3);
        roundIs("one more", x, 2, 0, 7, 0);
    }

    /** 60 TRIALS, each ROUND to its end: the BUDGETS are the greatest that there can be. */
    private static void roundsOfTheGreatest() {
        int[][] in = {{60, 30, 15, 7, 3, 1}, {60, 20, 6, 2, 1}, {60, 15, 3, 1}, {60, 12, 2, 1}};
        for (int f = 2; f <= 5; f++) {
            Counted x = Make.trials(60);
            x.bracket(0, 60, 1_000_000, f);
            int budget = 1_000_000;
            int last = in[f - 2].length - 1;
            for (int halved = 0; halved <= last; halved++) {
                int now = in[f - 2][halved];
                roundIs("FACTOR " + f + ", HALVED " + halved, x, now, halved, budget, halved == last ? 1 : 0);
                for (int t = 0; t < now; t++) {
                    x.result(t, -t, true);
                }
                x.halve();
                budget *= f;
            }
            roundIs("FACTOR " + f + ", not HALVED when over", x, 1, last, budget / f, 1);
        }
    }

    private static void overWithNoneOrOne() {
        roundIs("one left", Scene.OVER.play(), 1, 1, 18, 1);
        Counted x = Make.trials(6);
        x.bracket(0, 6, 5, 3);
        for (int t = 0; t < 6; t++) {
            x.result(t, 0, t < 2);
        }
        roundIs("before it is HALVED", x, 6, 0, 5, 0);
        x.halve();
        roundIs("two left", x, 2, 1, 15, 0);
        x.result(0, 0, false);
        x.result(1, 0, false);
        roundIs("both FAILED, not HALVED", x, 2, 1, 15, 0);
        x.halve();
        roundIs("none left", x, 0, 2, 45, 1);
        Counted y = Make.trials(1);
        y.bracket(0, 1, 5, 4);
        roundIs("one from the start", y, 1, 0, 5, 0);
        y.result(0, 3, true);
        roundIs("one from the start with a RESULT", y, 1, 0, 5, 0);
        y.halve();
        roundIs("one from the start, HALVED", y, 1, 1, 20, 1);
    }

    private static void resultsChangeNothingOfIt() {
        Counted x = Scene.BUSY.play();
        x.result(1, 3, true);
        roundIs("a RESULT", x, 3, 1, 18, 0);
        Counted y = Scene.OVER.play();
        y.result(3, 3, false);
        roundIs("FAILING when over", y, 1, 1, 18, 1);
    }
}
