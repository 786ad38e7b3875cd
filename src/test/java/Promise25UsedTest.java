/** Promise 25: used. */
public final class Promise25UsedTest {
    private static final int BAD = -1;
    private static final int LEAST = Integer.MIN_VALUE, GREATEST = Integer.MAX_VALUE;
    private static final Check CHECK = new Check("Promise 25, used");

    public static void main(String[] args) {
        rowFrom0ToTheLast();
        outerFrom0ToTheLast();
        whatFrom0To2();
        withoutFolds();
        howOften();
        refusedOnesDoNotCount();
        noRowThatTestsEverChooses();
        CHECK.end();
    }

    private static void asked(Scene scene, String text, Scene.Call call, long due) {
        Unchanged.by(CHECK, scene, text, call, due);
    }

    private static void rowFrom0ToTheLast() {
        CHECK.holds("row 0", Scene.BUSY.play().used(0, 0, 0) >= 0);
        CHECK.holds("row 22", Scene.BUSY.play().used(22, 0, 0) >= 0);
        CHECK.holds("row 199", Scene.FULL.play().used(199, 9, 2) >= 0);
        for (int row : new int[] {-1, 23, 199, 200, LEAST, GREATEST}) {
            asked(Scene.BUSY, "row " + row, x -> x.used(row, 0, 0), BAD);
        }
        asked(Scene.FULL, "row 200", x -> x.used(200, 0, 0), BAD);
    }

    private static void outerFrom0ToTheLast() {
        CHECK.holds("OUTER 2", Scene.BUSY.play().used(0, 2, 0) >= 0);
        CHECK.holds("OUTER 9", Scene.FULL.play().used(0, 9, 0) >= 0);
        for (int o : new int[] {-1, 3, 9, 10, LEAST, GREATEST}) {
            for (int what = 0; what < 3; what++) {
                int number = what;
                asked(Scene.BUSY, "OUTER " + o + ", what " + what, x -> x.used(0, o, number), BAD);
            }
        }
        asked(Scene.FULL, "OUTER 10", x -> x.used(0, 10, 0), BAD);
    }

    private static void whatFrom0To2() {
        for (int what : new int[] {-1, 3, LEAST, GREATEST}) {
            asked(Scene.BUSY, "what " + what, x -> x.used(0, 0, what), BAD);
        }
        for (int what = 0; what < 3; what++) {
            int number = what;
            asked(Scene.BUSY, "what " + what, x -> x.used(5, 1, number), Scene.BUSY.play().used(5, 1, what));
        }
    }

    private static void withoutFolds() {
        for (int what = 0; what < 3; what++) {
            int number = what;
            asked(Scene.NEW, "what " + what, x -> x.used(0, 0, number), BAD);
            asked(Scene.NO_FOLDS, "with TRIALS, what " + what, x -> x.used(0, 0, number), BAD);
        }
        asked(Scene.NEW, "row and OUTER -1", x -> x.used(-1, -1, 0), BAD);
        Counted y = new Counted();
        y.folds(9, 2, 11, 0);
        CHECK.due("refused FOLDS", y.used(0, 0, 0), BAD);
    }

    /** INNER fold i chooses i + 1 times for OUTER fold 2, which is then TESTED. */
    private static void howOften() {
        Counted x = new Counted();
        x.folds(40, 4, 5, -3);
        for (int i = 0; i < 5; i++) {
            for (int times = 0; times <= i; times++) {
                x.use(2, i);
            }
        }
        x.use(2, -1);
        for (int row = 0; row < 40; row++) {
            boolean tests = x.fold(row, 0) == 2;
            int validated = x.fold(row, 1) + 1;
            CHECK.due("row " + row + " TRAINED", x.used(row, 2, 0), tests ? 0 : 15 - validated + 1);
            CHECK.due("row " + row + " VALIDATED", x.used(row, 2, 1), tests ? 0 : validated);
            CHECK.due("row " + row + " TESTED", x.used(row, 2, 2), tests ? 1 : 0);
            CHECK.due("row " + row + " for another", x.used(row, 3, 0), 0);
        }
    }

    private static long sum(Counted x, int rows, int outer) {
        long sum = 0;
        for (int row = 0; row < rows; row++) {
            for (int what = 0; what < 3; what++) {
                sum += x.used(row, outer, what);
            }
        }
        return sum;
    }

    private static void refusedOnesDoNotCount() {
        Counted x = new Counted();
        x.folds(13, 3, 2, 8);
        x.use(3, 0);
        x.use(0, 2);
        x.use(0, -2);
        CHECK.due("BAD", sum(x, 13, 0), 0);
        x.use(0, -1);
        CHECK.due("TESTED: each row once", sum(x, 13, 0), 13);
        x.use(0, -1);
        x.use(0, 0);
        x.use(0, 1);
        CHECK.due("NOT", sum(x, 13, 0), 13);
    }

    private static void noRowThatTestsEverChooses() {
        for (int o = 0; o < 5; o++) {
            Counted x = new Counted();
            x.folds(50, 5, 3, 12);
            for (int outer = 0; outer < 5; outer++) {
                for (int i = 0; i < 3; i++) {
                    x.use(outer, i);
                }
                x.use(outer, -1);
                for (int i = 0; i < 3; i++) {
                    x.use(outer, i);
                }
            }
            for (int row = 0; row < 50; row++) {
                int trained = x.used(row, o, 0);
                int validated = x.used(row, o, 1);
                int tested = x.used(row, o, 2);
                boolean tests = x.fold(row, 0) == o;
                CHECK.due("row " + row + " TRAINED for " + o, trained, tests ? 0 : 3);
                CHECK.due("row " + row + " VALIDATED for " + o, validated, tests ? 0 : 1);
                CHECK.due("row " + row + " TESTED " + o, tested, tests ? 1 : 0);
            }
        }
    }
}
