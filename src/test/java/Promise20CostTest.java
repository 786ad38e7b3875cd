/** Promise 20: cost. */
public final class Promise20CostTest {
    private static final Check CHECK = new Check("Promise 20, cost");

    public static void main(String[] args) {
        withoutABracket();
        budgetForEachResultOrFailing();
        refusedOnesCostNothing();
        ofAllRounds();
        theGreatest();
        ofThisBracketAlone();
        askingChangesNothing();
        CHECK.end();
    }

    private static void withoutABracket() {
        CHECK.due("a new object", new Counted().cost(), 0);
        Counted x = Make.trials(2);
        x.score(0, 5, true);
        x.report(1, 5, 0);
        CHECK.due("TRIALS cost nothing", x.cost(), 0);
        x.bracket(0, 3, 5, 2);
        x.result(0, 1, true);
        CHECK.due("a refused BRACKET", x.cost(), 0);
    }

    private static void budgetForEachResultOrFailing() {
        Counted x = Make.trials(4);
        x.bracket(0, 4, 1_000_000, 2);
        CHECK.due("none yet", x.cost(), 0);
        x.result(0, 1, true);
        CHECK.due("a RESULT", x.cost(), 1_000_000);
        x.result(1, 1, false);
        CHECK.due("one that FAILS", x.cost(), 2_000_000);
        Counted y = Make.trials(1);
        y.bracket(0, 1, 1, 2);
        y.result(0, 1, true);
        CHECK.due("the least BUDGET", y.cost(), 1);
    }

    private static void refusedOnesCostNothing() {
        Counted x = Scene.BUSY.play();
        long cost = x.cost();
        x.result(8, 1, true);
        x.result(1, 1_000_001, true);
        x.result(0, 1, true);
        x.result(2, 1, true);
        x.result(3, 1, false);
        x.halve();
        CHECK.due("BAD and NOT", x.cost(), cost);
    }

    private static void ofAllRounds() {
        Counted x = Scene.BUSY.play();
        CHECK.due("six of 9, two of 18", x.cost(), 6 * 9 + 2 * 18);
        x.result(1, 1, true);
        CHECK.due("a third of 18", x.cost(), 6 * 9 + 3 * 18);
        x.halve();
        CHECK.due("HALVING costs nothing", x.cost(), 6 * 9 + 3 * 18);
    }

    private static void theGreatest() {
        long[] due = {316_000_000, 60_000_000 + 60_000_000 + 54_000_000 + 54_000_000 + 81_000_000,
            60_000_000 + 60_000_000 + 48_000_000 + 64_000_000, 60_000_000 + 60_000_000 + 50_000_000 + 125_000_000};
        for (int f = 2; f <= 5; f++) {
            Counted x = Make.trials(60);
            x.bracket(0, 60, 1_000_000, f);
            for (int n = 60; n > 1; n = Math.max(1, n / f)) {
                for (int t = 0; t < n; t++) {
                    x.result(t, -t, true);
                }
                x.halve();
            }
            x.result(0, 1, true);
            CHECK.due("60 TRIALS to the end and one more RESULT, FACTOR " + f, x.cost(), due[f - 2]);
        }
    }

    private static void ofThisBracketAlone() {
        Counted x = Scene.BUSY.play();
        x.bracket(0, 2, 7, 2);
        CHECK.due("a new BRACKET", x.cost(), 0);
        x.result(0, 1, true);
        CHECK.due("its BUDGET", x.cost(), 7);
        x.bracket(0, 9, 7, 2);
        CHECK.due("a refused one", x.cost(), 7);
    }

    private static void askingChangesNothing() {
        Unchanged.by(CHECK, Scene.NEW, "no BRACKET", x -> x.cost(), 0);
        Unchanged.by(CHECK, Scene.NO_BRACKET, "TRIALS and FOLDS, no BRACKET", x -> x.cost(), 0);
        Unchanged.by(CHECK, Scene.BUSY, "a BRACKET", x -> x.cost(), 90);
        Unchanged.by(CHECK, Scene.OVER, "one that is over", x -> x.cost(), 24);
    }
}
