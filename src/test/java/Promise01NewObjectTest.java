/** Promise 1: a new object, and what holds for an object to the last of its 512 calls. */
public final class Promise01NewObjectTest {
    private static final int BAD = -1, NONE = -2, NOT = -3, FULL = -4;
    private static final long FAR = 1_000_000_000_000_000_000L;
    private static final Check CHECK = new Check("Promise 1, a new object");

    public static void main(String[] args) {
        constants();
        emptySpace();
        noTrials();
        noBracket();
        noFolds();
        objectsShareNothing();
        theLastCall();
        CHECK.end();
    }

    private static void constants() {
        CHECK.due("BAD", TrialSearch.BAD, BAD);
        CHECK.due("NONE", TrialSearch.NONE, NONE);
        CHECK.due("NOT", TrialSearch.NOT, NOT);
        CHECK.due("FULL", TrialSearch.FULL, FULL);
    }

    private static void emptySpace() {
        Counted x = new Counted();
        CHECK.due("one POINT", x.points(), 1);
        CHECK.due("its number", x.number(0), 0);
        CHECK.due("it is as far from itself as any", x.distance(0, 0), 0);
        CHECK.due("there is no second", x.distance(0, 1), BAD);
        CHECK.due("no NAME", x.value(0, 0), BAD);
        CHECK.due("the first NAME can't be ON one", x.name(2, 0, 1), BAD);
        CHECK.due("the first NAME", x.name(2, -1, 0), 0);
    }

    private static void noTrials() {
        Counted x = new Counted();
        for (int what = 0; what < 5; what++) {
            CHECK.due("told " + what, x.told(0, what), BAD);
        }
        CHECK.due("point", x.point(0), BAD);
        CHECK.due("reported", x.reported(0, 0), -2_000_000);
        CHECK.due("score", x.score(0, 0, true), BAD);
        CHECK.due("report", x.report(0, 0, 0), BAD);
        CHECK.due("best", x.best(), NONE);
        CHECK.due("forecast", x.forecast(0, 1, 0), NONE - FAR);
        CHECK.due("bracket", x.bracket(0, 1, 1, 2), BAD);
        CHECK.due("the first TRIAL", x.trial(0, 0), 0);
    }

    private static void noBracket() {
        Counted x = new Counted();
        for (int what = 0; what < 4; what++) {
            CHECK.due("round " + what, x.round(what), NONE);
        }
        CHECK.due("cost", x.cost(), 0);
        CHECK.due("halve", x.halve(), NOT);
        CHECK.due("result of no TRIAL", x.result(0, 0, true), BAD);
        x.trial(0, 0);
        CHECK.due("result of a TRIAL", x.result(0, 0, true), NOT);
        CHECK.due("it is not IN", x.told(0, 4), 0);
    }

    private static void noFolds() {
        Counted x = new Counted();
        CHECK.due("fold", x.fold(0, 0), BAD);
        CHECK.due("use to choose", x.use(0, 0), BAD);
        CHECK.due("use to test", x.use(0, -1), BAD);
        CHECK.due("used", x.used(0, 0, 0), BAD);
    }

    private static void objectsShareNothing() {
        Counted busy = Scene.BUSY.play();
        Counted x = new Counted();
        CHECK.due("no NAMES of another's", x.points(), 1);
        CHECK.due("no TRIALS of another's", x.trial(0, 0), 0);
        CHECK.due("no BRACKET of another's", x.round(0), NONE);
        CHECK.due("no FOLDS of another's", x.fold(0, 0), BAD);
        CHECK.due("another keeps its own", busy.points(), 65);
    }

    /** 511 calls on one object, with counts as great as they can get, and the 512th still answers as due. */
    private static void theLastCall() {
        int row = rowOfFold(0);
        Counted x = new Counted();
        x.folds(200, 10, 10, 7);
        while (x.calls() < Counted.MOST_CALLS - 1) {
            x.use(1, 0);
        }
        CHECK.due("call 512", x.used(row, 1, 1), 510);
    }

    /** A row of INNER fold 0 and of OUTER fold o. */
    private static int rowOfFold(int o) {
        Counted x = new Counted();
        x.folds(200, 10, 10, 7);
        for (int row = 0; row < 200; row++) {
            if (x.fold(row, 0) == o && x.fold(row, 1) == 0) {
                return row;
            }
        }
        return -1;
    }
}
