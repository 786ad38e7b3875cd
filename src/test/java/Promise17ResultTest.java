/** Promise 17: result. */
public final class Promise17ResultTest {
    private static final int BAD = -1, NOT = -3;
    private static final int LEAST = Integer.MIN_VALUE, GREATEST = Integer.MAX_VALUE;
    private static final Check CHECK = new Check("Promise 17, result");

    public static void main(String[] args) {
        howManyHaveNoneYet();
        trialFrom0ToTheLast();
        resultFromLeastToMost();
        failsWhateverV();
        noBracket();
        notIn();
        itHasOne();
        eachRoundAnew();
        whenItIsOver();
        theFirstOfSeveral();
        CHECK.end();
    }

    private static void refused(Scene scene, String text, Scene.Call call, long due) {
        Unchanged.by(CHECK, scene, text, call, due);
    }

    private static void howManyHaveNoneYet() {
        Counted x = Make.trials(4);
        x.bracket(0, 4, 1, 2);
        CHECK.due("three", x.result(2, 5, true), 3);
        CHECK.due("two, one FAILED", x.result(0, 5, false), 2);
        CHECK.due("one", x.result(3, 5, true), 1);
        CHECK.due("none", x.result(1, 5, false), 0);
        Counted y = Make.trials(60);
        y.bracket(0, 60, 1, 2);
        for (int t = 59; t >= 0; t--) {
            CHECK.due("of 60, " + t, y.result(t, 5, true), t);
        }
        Counted z = Make.trials(1);
        z.bracket(0, 1, 1, 2);
        CHECK.due("of one", z.result(0, 5, true), 0);
    }

    private static void trialFrom0ToTheLast() {
        CHECK.due("TRIAL 59", Scene.FULL.then(x -> x.bracket(58, 2, 1, 2)).play().result(59, 1, true), 1);
        CHECK.due("TRIAL 0", Scene.FULL.then(x -> x.bracket(0, 2, 1, 2)).play().result(0, 1, true), 1);
        for (int t : new int[] {-1, 8, 59, 60, LEAST, GREATEST}) {
            refused(Scene.BUSY, "TRIAL " + t, x -> x.result(t, 1, true), BAD);
            refused(Scene.BUSY, "TRIAL " + t + ", failing", x -> x.result(t, 1, false), BAD);
        }
        refused(Scene.FULL, "TRIAL 60", x -> x.result(60, 1, true), BAD);
        refused(Scene.NEW, "no TRIALS, no BRACKET", x -> x.result(0, 1, true), BAD);
    }

    private static void resultFromLeastToMost() {
        Counted x = Make.trials(2);
        x.bracket(0, 2, 1, 2);
        CHECK.due("10^6", x.result(0, 1_000_000, true), 1);
        CHECK.due("- 10^6", x.result(1, -1_000_000, true), 0);
        CHECK.due("10^6 is kept", x.told(0, 3), 1_000_000);
        CHECK.due("- 10^6 is kept", x.told(1, 3), -1_000_000);
        for (int v : new int[] {1_000_001, -1_000_001, LEAST, GREATEST}) {
            refused(Scene.BUSY, "v " + v, y -> y.result(1, v, true), BAD);
        }
    }

    private static void failsWhateverV() {
        for (int v : new int[] {0, 1_000_000, 1_000_001, -1_000_001, LEAST, GREATEST}) {
            Counted x = Scene.BUSY.play();
            CHECK.due("failing, v " + v, x.result(1, v, false), 0);
            CHECK.due("no RESULT, v " + v, x.told(1, 3), 0);
            CHECK.due("only 2 did not FAIL, v " + v, x.halve(), 1);
            CHECK.due("it is 2, v " + v, x.told(2, 4), 1);
        }
    }

    private static void noBracket() {
        Scene trials = Scene.NEW.then(x -> x.trial(0, 0), x -> x.trial(0, 0));
        refused(trials, "no BRACKET", x -> x.result(0, 1, true), NOT);
        refused(trials, "no BRACKET, failing", x -> x.result(1, 1, false), NOT);
        refused(Scene.NO_BRACKET, "no BRACKET, of each STATE", x -> x.result(3, 1, true), NOT);
        refused(trials.then(x -> x.bracket(0, 3, 1, 2)), "a refused BRACKET", x -> x.result(0, 1, true), NOT);
    }

    /** Of BUSY's TRIALS 1, 2 and 3 are IN; 0 and 7 never were, 4, 5 and 6 have gone. */
    private static void notIn() {
        for (int t : new int[] {0, 4, 5, 6, 7}) {
            refused(Scene.BUSY, "TRIAL " + t, x -> x.result(t, 1, true), NOT);
            refused(Scene.BUSY, "TRIAL " + t + ", failing", x -> x.result(t, 1, false), NOT);
        }
        CHECK.due("one that is IN", Scene.BUSY.play().result(1, 1, true), 0);
    }

    private static void itHasOne() {
        refused(Scene.BUSY, "a RESULT", x -> x.result(2, 9, true), NOT);
        refused(Scene.BUSY, "a RESULT, failing", x -> x.result(2, 9, false), NOT);
        refused(Scene.BUSY, "it FAILED", x -> x.result(3, 9, true), NOT);
        refused(Scene.BUSY, "it FAILED, failing", x -> x.result(3, 9, false), NOT);
        Counted x = Make.trials(2);
        x.bracket(0, 2, 1, 2);
        x.result(0, 0, true);
        CHECK.due("a RESULT of 0 is one", x.result(0, 1, true), NOT);
    }

    private static void eachRoundAnew() {
        Counted x = Make.trials(4);
        x.bracket(0, 4, 1, 2);
        for (int t = 0; t < 4; t++) {
            x.result(t, t, true);
        }
        CHECK.due("until it is HALVED", x.result(3, 1, true), NOT);
        x.halve();
        CHECK.due("in the next ROUND", x.result(3, 1, true), 1);
        CHECK.due("one that has gone", x.result(1, 1, true), NOT);
        CHECK.due("in the next ROUND", x.result(2, 1, true), 0);
    }

    /** The document refuses it without a BRACKET, to one not IN and to one that has one: not when it is over. */
    private static void whenItIsOver() {
        Counted x = Scene.OVER.play();
        CHECK.due("the one that is IN", x.result(3, 6, true), 0);
        CHECK.due("it costs", x.cost(), 4 * 6 + 18);
        CHECK.due("it has one", x.result(3, 6, true), NOT);
        for (int t : new int[] {0, 1, 2, 4}) {
            refused(Scene.OVER, "over, TRIAL " + t, y -> y.result(t, 6, true), NOT);
        }
    }

    private static void theFirstOfSeveral() {
        Scene trial = Scene.NEW.then(x -> x.trial(0, 0));
        refused(trial, "BAD v ahead of no BRACKET", x -> x.result(0, 1_000_001, true), BAD);
        refused(Scene.BUSY, "BAD v ahead of not IN", x -> x.result(0, -1_000_001, true), BAD);
        refused(Scene.BUSY, "BAD v ahead of one it has", x -> x.result(2, 1_000_001, true), BAD);
        refused(Scene.BUSY, "no BAD v when it fails", x -> x.result(0, 1_000_001, false), NOT);
    }
}
