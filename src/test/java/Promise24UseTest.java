/** Promise 24: use. */
public final class Promise24UseTest {
    private static final int BAD = -1, NOT = -3;
    private static final int LEAST = Integer.MIN_VALUE, GREATEST = Integer.MAX_VALUE;
    private static final Check CHECK = new Check("Promise 24, use");

    public static void main(String[] args) {
        outerFrom0ToTheLast();
        innerFromMinus1ToTheLast();
        withoutFolds();
        howManyValidate();
        howManyTest();
        choosingUsesRows();
        testingUsesRows();
        notForOneThatWasTested();
        othersAreNotTested();
        choosingAgain();
        emptyFolds();
        theFirstOfSeveral();
        CHECK.end();
    }

    private static void refused(Scene scene, String text, Scene.Call call, long due) {
        Unchanged.by(CHECK, scene, text, call, due);
    }

    private static Counted folds(int rows, int outer, int inner) {
        Counted x = new Counted();
        x.folds(rows, outer, inner, 8);
        return x;
    }

    private static void outerFrom0ToTheLast() {
        CHECK.due("OUTER 0", folds(12, 3, 2).use(0, 0), 4);
        CHECK.due("OUTER 2", folds(12, 3, 2).use(2, 0), 4);
        CHECK.due("OUTER 9", folds(200, 10, 10).use(9, -1), 20);
        for (int o : new int[] {-1, 3, 9, 10, LEAST, GREATEST}) {
            refused(Scene.BUSY, "OUTER " + o + ", to choose", x -> x.use(o, 0), BAD);
            refused(Scene.BUSY, "OUTER " + o + ", to test", x -> x.use(o, -1), BAD);
        }
        refused(Scene.FULL, "OUTER 10", x -> x.use(10, -1), BAD);
    }

    private static void innerFromMinus1ToTheLast() {
        CHECK.due("INNER -1", folds(12, 3, 4).use(0, -1), 4);
        CHECK.due("INNER 0", folds(12, 3, 4).use(0, 0), 2);
        CHECK.due("INNER 3", folds(12, 3, 4).use(0, 3), 2);
        CHECK.due("INNER 9", folds(200, 10, 10).use(0, 9), 18);
        for (int i : new int[] {-2, 4, 9, 10, LEAST, GREATEST}) {
            refused(Scene.BUSY, "INNER " + i, x -> x.use(0, i), BAD);
        }
        refused(Scene.FULL, "INNER 10", x -> x.use(1, 10), BAD);
    }

    private static void withoutFolds() {
        refused(Scene.NEW, "to choose", x -> x.use(0, 0), BAD);
        refused(Scene.NEW, "to test", x -> x.use(0, -1), BAD);
        refused(Scene.NEW, "OUTER -1", x -> x.use(-1, -1), BAD);
        refused(Scene.NO_FOLDS, "to choose, with TRIALS", x -> x.use(0, 0), BAD);
        refused(Scene.NO_FOLDS, "to test, with TRIALS", x -> x.use(0, -1), BAD);
        refused(Scene.NEW.then(x -> x.folds(0, 2, 2, 1)), "refused FOLDS", x -> x.use(0, 0), BAD);
    }

    /** Places 0 .. 12 are of OUTER folds 0 1 2 0 1 2 0 1 2 0 1 2 0, of INNER folds 0 0 0 1 1 1 0 0 0 1 1 1 0. */
    private static void howManyValidate() {
        int[][] due = {{4, 4}, {5, 4}, {5, 4}};
        for (int o = 0; o < 3; o++) {
            for (int i = 0; i < 2; i++) {
                CHECK.due("for " + o + " with " + i, folds(13, 3, 2).use(o, i), due[o][i]);
            }
        }
    }

    private static void howManyTest() {
        int[] due = {5, 4, 4};
        for (int o = 0; o < 3; o++) {
            CHECK.due("TEST " + o, folds(13, 3, 2).use(o, -1), due[o]);
        }
    }

    private static void choosingUsesRows() {
        Counted x = folds(13, 3, 2);
        x.use(1, 1);
        for (int row = 0; row < 13; row++) {
            boolean left = x.fold(row, 0) == 1;
            boolean validates = !left && x.fold(row, 1) == 1;
            CHECK.due("row " + row + " TRAINED", x.used(row, 1, 0), left || validates ? 0 : 1);
            CHECK.due("row " + row + " VALIDATED", x.used(row, 1, 1), validates ? 1 : 0);
            CHECK.due("row " + row + " TESTED", x.used(row, 1, 2), 0);
            for (int what = 0; what < 3; what++) {
                CHECK.due("row " + row + " for 0, what " + what, x.used(row, 0, what), 0);
                CHECK.due("row " + row + " for 2, what " + what, x.used(row, 2, what), 0);
            }
        }
    }

    private static void testingUsesRows() {
        Counted x = folds(13, 3, 2);
        x.use(2, -1);
        for (int row = 0; row < 13; row++) {
            boolean tests = x.fold(row, 0) == 2;
            CHECK.due("row " + row + " TRAINED", x.used(row, 2, 0), tests ? 0 : 1);
            CHECK.due("row " + row + " VALIDATED", x.used(row, 2, 1), 0);
            CHECK.due("row " + row + " TESTED", x.used(row, 2, 2), tests ? 1 : 0);
            for (int what = 0; what < 3; what++) {
                CHECK.due("row " + row + " for 0, what " + what, x.used(row, 0, what), 0);
                CHECK.due("row " + row + " for 1, what " + what, x.used(row, 1, what), 0);
            }
        }
    }

    /** BUSY's OUTER fold 1 was TESTED; FULL's 9. */
    private static void notForOneThatWasTested() {
        refused(Scene.BUSY, "TO TEST", x -> x.use(1, -1), NOT);
        for (int i = 0; i < 4; i++) {
            int inner = i;
            refused(Scene.BUSY, "TO CHOOSE with " + i, x -> x.use(1, inner), NOT);
        }
        refused(Scene.FULL, "TO TEST the last", x -> x.use(9, -1), NOT);
        refused(Scene.FULL, "TO CHOOSE for the last", x -> x.use(9, 0), NOT);
    }

    /** Of 23 places 9, 10, 11, 21 and 22 are of INNER fold 3, of OUTER folds 0 1 2 0 1. */
    private static void othersAreNotTested() {
        Counted x = Scene.BUSY.play();
        CHECK.due("TO CHOOSE for 0", x.use(0, 3), 3);
        CHECK.due("TO CHOOSE for 2", x.use(2, 3), 4);
        CHECK.due("TO TEST 0", x.use(0, -1), 8);
        CHECK.due("TO TEST 2", x.use(2, -1), 7);
        CHECK.due("now 0 was", x.use(0, 3), NOT);
        CHECK.due("now 2 was", x.use(2, -1), NOT);
    }

    private static void choosingAgain() {
        Counted x = folds(12, 3, 2);
        for (int times = 0; times < 5; times++) {
            CHECK.due("TO CHOOSE, as often as one likes", x.use(0, 1), 4);
        }
        CHECK.due("then TO TEST", x.use(0, -1), 4);
        CHECK.due("but once", x.use(0, -1), NOT);
    }

    private static void emptyFolds() {
        Counted x = folds(1, 10, 10);
        CHECK.due("an empty fold TESTS no row", x.use(9, -1), 0);
        CHECK.due("but was TESTED", x.use(9, -1), NOT);
        CHECK.due("but was TESTED", x.use(9, 0), NOT);
        CHECK.due("no row VALIDATES", x.use(8, 9), 0);
        CHECK.due("the row VALIDATES", x.use(8, 0), 1);
        CHECK.due("the row is left out", x.use(0, 0), 0);
        CHECK.due("the row TESTS", x.use(0, -1), 1);
    }

    private static void theFirstOfSeveral() {
        refused(Scene.BUSY, "BAD INNER ahead of NOT", x -> x.use(1, 4), BAD);
        refused(Scene.BUSY, "BAD INNER ahead of NOT", x -> x.use(1, -2), BAD);
        refused(Scene.FULL, "BAD INNER ahead of NOT", x -> x.use(9, 10), BAD);
    }
}
