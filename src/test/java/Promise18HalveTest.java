/** Promise 18: halve. */
public final class Promise18HalveTest {
    private static final int NOT = -3;
    private static final Check CHECK = new Check("Promise 18, halve");

    public static void main(String[] args) {
        shares();
        theGreatestStay();
        ofLikeOnesTheLesserNumbers();
        leastAndMostResults();
        byThisRoundAlone();
        fewerIfFewerDidNotFail();
        allFail();
        bracketOfOne();
        noBracket();
        itIsOver();
        oneInHasNoResult();
        CHECK.end();
    }

    private static void refused(Scene scene, String text) {
        Unchanged.by(CHECK, scene, text, x -> x.halve(), NOT);
    }

    /** A BRACKET whose TRIALS all have had their RESULTS; those of -9 FAILED. */
    private static Counted marked(int factor, int... marks) {
        Counted x = Make.trials(marks.length);
        x.bracket(0, marks.length, 1, factor);
        for (int t = marks.length - 1; t >= 0; t--) {
            x.result(t, marks[t], marks[t] != -9);
        }
        return x;
    }

    private static int[] rising(int count) {
        int[] marks = new int[count];
        for (int t = 0; t < count; t++) {
            marks[t] = t;
        }
        return marks;
    }

    /** By f, cut, but 1 at least: just below and at each whole share. */
    private static void shares() {
        for (int f = 2; f <= 5; f++) {
            for (int n = 1; n <= 60; n++) {
                Counted x = marked(f, rising(n));
                int due = n < f ? 1 : n / f;
                CHECK.due(n + " by " + f, x.halve(), due);
                CHECK.due(n + " by " + f + ", IN", x.round(0), due);
                String stay = "0".repeat(n - due) + "1".repeat(due);
                CHECK.holds(n + " by " + f + ", the last stay", Make.in(x, n).equals(stay));
            }
        }
    }

    private static void stay(String text, int factor, String due, int... marks) {
        Counted x = marked(factor, marks);
        CHECK.due(text, x.halve(), due.replace("0", "").length());
        CHECK.holds(text + ": " + due, Make.in(x, marks.length).equals(due));
    }

    private static void theGreatestStay() {
        stay("three of ten", 3, "0011010000", 5, -1, 8, 8, 3, 9, 0, -7, 2, 4);
        stay("below 0", 2, "0101", -50, -2, -3, -1);
        stay("the first two", 2, "1100", 4, 3, 2, 1);
        stay("the last two", 2, "0011", 1, 2, 3, 4);
    }

    private static void ofLikeOnesTheLesserNumbers() {
        stay("all alike", 2, "1110000", 7, 7, 7, 7, 7, 7, 7);
        stay("four alike for three", 2, "0101010", 1, 2, 1, 2, 1, 2, 2);
        stay("two alike for one", 5, "0100", 1, 2, 2, 1);
    }

    private static void leastAndMostResults() {
        stay("of the most", 2, "010", -1_000_000, 1_000_000, 999_999);
        stay("of the least", 2, "001", -1_000_000, -1_000_000, -999_999);
        stay("the least is better than FAILING", 2, "010", -9, -1_000_000, -9);
        stay("0 is a RESULT", 5, "0010", -9, -1, 0, -9);
    }

    private static void byThisRoundAlone() {
        Counted x = marked(2, 1, 2, 3, 4);
        CHECK.due("first", x.halve(), 2);
        x.result(2, 9, true);
        x.result(3, 8, true);
        CHECK.due("second", x.halve(), 1);
        CHECK.holds("TRIAL 2 has the greatest now", Make.in(x, 4).equals("0010"));
        Counted y = marked(3, rising(27));
        CHECK.due("27 by 3", y.halve(), 9);
        for (int t = 18; t < 27; t++) {
            y.result(t, -t, true);
        }
        CHECK.due("9 by 3", y.halve(), 3);
        CHECK.holds("18, 19 and 20", Make.in(y, 27).equals("0".repeat(18) + "111000000"));
    }

    private static void fewerIfFewerDidNotFail() {
        stay("two for three", 2, "000011", -9, -9, -9, -9, -5, -6);
        stay("three for three", 2, "000111", -9, -9, -9, -4, -5, -6);
        stay("four for three", 2, "001110", -9, -9, -3, -4, -5, -6);
        stay("one for two", 2, "0010", -9, -9, 1, -9);
    }

    private static void allFail() {
        Counted x = marked(2, -9, -9, -9, -9);
        CHECK.due("none", x.halve(), 0);
        CHECK.due("none IN", x.round(0), 0);
        CHECK.due("over", x.round(3), 1);
        CHECK.due("over", x.halve(), NOT);
        Counted y = marked(5, -9);
        CHECK.due("one that FAILED", y.halve(), 0);
    }

    /** One is IN from the start; over it is only behind a HALVING. */
    private static void bracketOfOne() {
        Counted x = marked(4, 3);
        CHECK.due("not over yet", x.round(3), 0);
        CHECK.due("one stays", x.halve(), 1);
        CHECK.due("over", x.round(3), 1);
        CHECK.due("over", x.halve(), NOT);
    }

    private static void noBracket() {
        refused(Scene.NEW, "no BRACKET");
        refused(Scene.NO_BRACKET, "TRIALS and FOLDS, no BRACKET");
        refused(Scene.NEW.then(x -> x.trial(0, 0), x -> x.bracket(0, 2, 1, 2)), "a refused BRACKET");
    }

    private static void itIsOver() {
        refused(Scene.OVER, "over");
        refused(Scene.OVER.then(x -> x.result(3, 5, true)), "over, the one IN has a RESULT");
        refused(Scene.OVER.then(x -> x.result(3, 5, false)), "over, the one IN FAILED");
        Scene none = Scene.NEW.then(x -> x.trial(0, 0), x -> x.bracket(0, 1, 1, 2), x -> x.result(0, 0, false),
            x -> x.halve());
        refused(none, "over, none IN");
        Counted x = Scene.OVER.play();
        x.bracket(0, 2, 1, 2);
        x.result(0, 1, true);
        x.result(1, 1, true);
        CHECK.due("a new BRACKET in place of it", x.halve(), 1);
    }

    private static void oneInHasNoResult() {
        refused(Scene.BUSY, "one of three has none");
        refused(Scene.FULL, "58 of 60 have none");
        Scene two = Scene.NEW.then(x -> x.trial(0, 0), x -> x.trial(0, 0), x -> x.bracket(0, 2, 1, 2));
        refused(two, "none has one");
        refused(two.then(x -> x.result(1, 0, false)), "one has none, the other FAILED");
        CHECK.due("all have", Scene.BUSY.then(x -> x.result(1, 0, true)).play().halve(), 1);
        CHECK.due("all have, or FAILED", Scene.BUSY.then(x -> x.result(1, 0, false)).play().halve(), 1);
        Scene twice = Scene.NEW.then(x -> x.trial(0, 0), x -> x.bracket(0, 1, 1, 2));
        refused(twice, "the only one has none");
        refused(marked4().then(x -> x.halve()), "the next ROUND has none");
    }

    private static Scene marked4() {
        Scene scene = Scene.NEW;
        for (int i = 0; i < 4; i++) {
            scene = scene.then(x -> x.trial(0, 0));
        }
        scene = scene.then(x -> x.bracket(0, 4, 3, 2));
        for (int i = 0; i < 4; i++) {
            int t = i;
            scene = scene.then(x -> x.result(t, t, true));
        }
        return scene;
    }
}
