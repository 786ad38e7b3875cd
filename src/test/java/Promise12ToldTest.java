/** Promise 12: told. */
public final class Promise12ToldTest {
    private static final int BAD = -1;
    private static final int LEAST = Integer.MIN_VALUE, GREATEST = Integer.MAX_VALUE;
    private static final Check CHECK = new Check("Promise 12, told");

    public static void main(String[] args) {
        trialFrom0ToTheLast();
        whatFrom0To4();
        state();
        score();
        reports();
        result();
        resultOfThisRoundAlone();
        in();
        withoutABracket();
        askingChangesNothing();
        CHECK.end();
    }

    private static void trialFrom0ToTheLast() {
        CHECK.due("TRIAL 0", Scene.BUSY.play().told(0, 0), 1);
        CHECK.due("the last TRIAL", Scene.BUSY.play().told(7, 0), 0);
        CHECK.due("TRIAL 59", Scene.FULL.play().told(59, 4), 1);
        for (int what = 0; what < 5; what++) {
            int asked = what;
            for (int t : new int[] {-1, 8, 60, LEAST, GREATEST}) {
                Unchanged.by(CHECK, Scene.BUSY, "TRIAL " + t + ", what " + what, x -> x.told(t, asked), BAD);
            }
            CHECK.due("no TRIALS, what " + what, new Counted().told(0, what), BAD);
            CHECK.due("TRIAL 60, what " + what, Scene.FULL.play().told(60, what), BAD);
        }
    }

    private static void whatFrom0To4() {
        for (int what : new int[] {-1, 5, LEAST, GREATEST}) {
            Unchanged.by(CHECK, Scene.BUSY, "what " + what, x -> x.told(0, what), BAD);
        }
        CHECK.due("no TRIAL and no what", new Counted().told(0, 5), BAD);
    }

    private static void state() {
        int[] states = {1, 1, 2, 0, 3, 0, 0, 0};
        Counted x = Scene.BUSY.play();
        for (int t = 0; t < states.length; t++) {
            CHECK.due("STATE of " + t, x.told(t, 0), states[t]);
        }
    }

    private static void score() {
        int[] scores = {50, -7, 0, 0, 0, 0, 0, 0};
        Counted x = Scene.BUSY.play();
        for (int t = 0; t < scores.length; t++) {
            CHECK.due("SCORE of " + t, x.told(t, 1), scores[t]);
        }
        CHECK.due("the most", Scene.FULL.play().told(3, 1), 1_000_000);
        CHECK.due("the least", Scene.FULL.play().told(4, 1), -1_000_000);
    }

    private static void reports() {
        int[] reports = {0, 0, 0, 2, 1, 1, 0, 0};
        Counted x = Scene.BUSY.play();
        for (int t = 0; t < reports.length; t++) {
            CHECK.due("REPORTS of " + t, x.told(t, 2), reports[t]);
        }
        CHECK.due("the most", Scene.FULL.play().told(5, 2), 20);
    }

    private static void result() {
        Counted x = Make.trials(4);
        x.bracket(1, 3, 1, 2);
        CHECK.due("none yet", x.told(1, 3), 0);
        x.result(1, -1_000_000, true);
        x.result(2, 1_000_000, true);
        x.result(3, 55, false);
        CHECK.due("the least", x.told(1, 3), -1_000_000);
        CHECK.due("the most", x.told(2, 3), 1_000_000);
        CHECK.due("one that FAILED has none", x.told(3, 3), 0);
        CHECK.due("one that is not IN has none", x.told(0, 3), 0);
        CHECK.due("a RESULT is no SCORE", x.told(2, 1), 0);
        CHECK.due("and leaves it OPEN", x.told(2, 0), 0);
        CHECK.due("FAILING in a ROUND leaves it OPEN", x.told(3, 0), 0);
    }

    private static void resultOfThisRoundAlone() {
        Counted x = Scene.BUSY.play();
        int[] results = {0, 0, 7, 0, 0, 0, 0, 0};
        for (int t = 0; t < results.length; t++) {
            CHECK.due("RESULT of " + t, x.told(t, 3), results[t]);
        }
        x.result(1, 3, true);
        x.halve();
        for (int t = 0; t < results.length; t++) {
            CHECK.due("HALVED, RESULT of " + t, x.told(t, 3), 0);
        }
        Counted y = Scene.BUSY.play();
        y.bracket(2, 1, 1, 2);
        CHECK.due("none in a new BRACKET", y.told(2, 3), 0);
    }

    private static void in() {
        CHECK.holds("of 1, 2 and 3 none has gone", Make.in(Scene.BUSY.play(), 8).equals("01110000"));
        CHECK.holds("all 60", Make.in(Scene.FULL.play(), 60).equals("1".repeat(60)));
        CHECK.holds("the one left when it is over", Make.in(Scene.OVER.play(), 5).equals("00010"));
        Counted x = Make.trials(4);
        x.bracket(1, 2, 1, 2);
        CHECK.holds("just n", Make.in(x, 4).equals("0110"));
        x.result(1, 1, false);
        CHECK.due("one that FAILED is IN until it is HALVED", x.told(1, 4), 1);
        x.result(2, 1, false);
        x.halve();
        CHECK.holds("none", Make.in(x, 4).equals("0000"));
    }

    private static void withoutABracket() {
        CHECK.due("no RESULT", Make.trials(1).told(0, 3), 0);
        CHECK.due("not IN", Make.trials(1).told(0, 4), 0);
    }

    private static void askingChangesNothing() {
        for (int what = 0; what < 5; what++) {
            int asked = what;
            long due = Scene.BUSY.play().told(2, what);
            Unchanged.by(CHECK, Scene.BUSY, "what " + what, x -> x.told(2, asked), due);
        }
    }
}
