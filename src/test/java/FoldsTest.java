/** Promises 22 to 25: folds. */
public final class FoldsTest {
    private static final int BAD = TrialSearch.BAD, NOT = TrialSearch.NOT;
    private static final Check CHECK = new Check("FoldsTest");

    public static void main(String[] args) {
        folds();
        foldsRefused();
        foldsAnew();
        foldOfRows();
        foldRefused();
        choosing();
        testing();
        emptyFolds();
        useRefused();
        counts();
        usedRefused();
        noRowThatTestsEverChooses();
        CHECK.end();
    }

    private static void folds() {
        TrialSearch x = new TrialSearch();
        CHECK.due("22: least", x.folds(1, 2, 2, 0), 1);
        CHECK.due("22: greatest", x.folds(200, 10, 10, Integer.MIN_VALUE), 1);
        CHECK.holds("22: the last row", x.fold(199, 0) >= 0);
    }

    private static void foldsRefused() {
        TrialSearch x = new TrialSearch();
        CHECK.due("22: 0 rows", x.folds(0, 2, 2, 1), BAD);
        CHECK.due("22: 201 rows", x.folds(201, 2, 2, 1), BAD);
        CHECK.due("22: OUTER 1", x.folds(9, 1, 2, 1), BAD);
        CHECK.due("22: OUTER 11", x.folds(9, 11, 2, 1), BAD);
        CHECK.due("22: INNER 1", x.folds(9, 2, 1, 1), BAD);
        CHECK.due("22: INNER 11", x.folds(9, 2, 11, 1), BAD);
        CHECK.due("22: refused ones make none", x.fold(0, 0), BAD);
        x.folds(9, 3, 2, 1);
        x.use(0, 0);
        CHECK.due("22: refused", x.folds(9, 0, 2, 1), BAD);
        CHECK.due("22: the old ones are still there", x.fold(8, 0) >= 0 ? 1 : 0, 1);
        int used = 0;
        for (int row = 0; row < 9; row++) {
            used += x.used(row, 0, 0) + x.used(row, 0, 1);
        }
        CHECK.due("22: with their counts", used, 6);
    }

    private static void foldsAnew() {
        TrialSearch x = new TrialSearch();
        x.folds(20, 4, 3, 5);
        x.use(1, 2);
        x.use(1, -1);
        x.folds(12, 4, 3, 6);
        for (int row = 0; row < 12; row++) {
            for (int what = 0; what < 3; what++) {
                CHECK.due("22: all counts are 0", x.used(row, 1, what), 0);
            }
        }
        CHECK.due("22: fewer rows", x.fold(12, 0), BAD);
        CHECK.due("22: none was TESTED", x.use(1, -1), 3);
    }

    private static void foldOfRows() {
        int[] seeds = {0, 1, -1, 99, Integer.MAX_VALUE};
        for (int seed : seeds) {
            TrialSearch x = new TrialSearch();
            x.folds(200, 7, 4, seed);
            for (int row = 0; row < 200; row++) {
                int place = 0;
                for (int other = 0; other < 200; other++) {
                    place += Model.hash(seed, other) < Model.hash(seed, row) ? 1 : 0;
                }
                CHECK.due("23: OUTER fold of " + row, x.fold(row, 0), place % 7);
                CHECK.due("23: INNER fold of " + row, x.fold(row, 1), place / 7 % 4);
            }
        }
    }

    private static void foldRefused() {
        TrialSearch x = new TrialSearch();
        CHECK.due("23: without FOLDS", x.fold(0, 0), BAD);
        x.folds(5, 2, 2, 1);
        CHECK.due("23: row -1", x.fold(-1, 0), BAD);
        CHECK.due("23: row 5", x.fold(5, 0), BAD);
        CHECK.due("23: what -1", x.fold(0, -1), BAD);
        CHECK.due("23: what 2", x.fold(0, 2), BAD);
    }

    private static void choosing() {
        TrialSearch x = new TrialSearch();
        x.folds(13, 3, 2, 8);
        // places 0 .. 12: OUTER folds 0 1 2 0 1 2 0 1 2 0 1 2 0, INNER 0 0 0 1 1 1 0 0 0 1 1 1 0
        CHECK.due("24: VALIDATE for 0 with 0", x.use(0, 0), 4);
        CHECK.due("24: VALIDATE for 0 with 1", x.use(0, 1), 4);
        CHECK.due("24: VALIDATE for 1 with 0", x.use(1, 0), 5);
        CHECK.due("24: VALIDATE for 1 with 1", x.use(1, 1), 4);
        CHECK.due("24: again", x.use(1, 1), 4);
        for (int row = 0; row < 13; row++) {
            boolean left = x.fold(row, 0) == 1;
            int inner = x.fold(row, 1);
            CHECK.due("24: TRAINED", x.used(row, 1, 0), left ? 0 : inner == 0 ? 2 : 1);
            CHECK.due("24: VALIDATED", x.used(row, 1, 1), left ? 0 : inner == 0 ? 1 : 2);
            CHECK.due("24: TESTED", x.used(row, 1, 2), 0);
            CHECK.due("24: nothing for 2", x.used(row, 2, 0) + x.used(row, 2, 1), 0);
        }
    }

    private static void testing() {
        TrialSearch x = new TrialSearch();
        x.folds(13, 3, 2, 8);
        CHECK.due("24: TEST 0", x.use(0, -1), 5);
        CHECK.due("24: TEST 2", x.use(2, -1), 4);
        for (int row = 0; row < 13; row++) {
            boolean tests = x.fold(row, 0) == 2;
            CHECK.due("24: TRAINED", x.used(row, 2, 0), tests ? 0 : 1);
            CHECK.due("24: VALIDATED", x.used(row, 2, 1), 0);
            CHECK.due("24: TESTED", x.used(row, 2, 2), tests ? 1 : 0);
        }
        CHECK.due("24: TO TEST one that was", x.use(0, -1), NOT);
        CHECK.due("24: TO CHOOSE for one that was", x.use(0, 1), NOT);
        CHECK.due("24: TO CHOOSE for another", x.use(1, 1), 4);
        CHECK.due("24: TO TEST another", x.use(1, -1), 4);
        for (int row = 0; row < 13; row++) {
            CHECK.due("24: refused ones count nothing", x.used(row, 0, 0) + x.used(row, 0, 1) + x.used(row, 0, 2), 1);
        }
    }

    private static void emptyFolds() {
        TrialSearch x = new TrialSearch();
        x.folds(1, 10, 10, 3);
        CHECK.due("24: an empty fold TESTS no row", x.use(9, -1), 0);
        CHECK.due("24: but was TESTED", x.use(9, -1), NOT);
        CHECK.due("24: but was TESTED", x.use(9, 0), NOT);
        CHECK.due("24: no row VALIDATES", x.use(8, 9), 0);
        CHECK.due("24: the row VALIDATES", x.use(8, 0), 1);
        CHECK.due("24: the row is left out", x.use(0, 0), 0);
        CHECK.due("25: TRAINED for the empty one", x.used(0, 9, 0), 1);
        CHECK.due("25: TRAINED for 8", x.used(0, 8, 0), 1);
        CHECK.due("25: VALIDATED for 8", x.used(0, 8, 1), 1);
        CHECK.due("25: left out for 0", x.used(0, 0, 0) + x.used(0, 0, 1) + x.used(0, 0, 2), 0);
    }

    private static void useRefused() {
        TrialSearch x = new TrialSearch();
        CHECK.due("24: without FOLDS", x.use(0, 0), BAD);
        CHECK.due("24: without FOLDS", x.use(0, -1), BAD);
        x.folds(9, 3, 2, 1);
        CHECK.due("24: OUTER -1", x.use(-1, 0), BAD);
        CHECK.due("24: OUTER 3", x.use(3, 0), BAD);
        CHECK.due("24: INNER -2", x.use(0, -2), BAD);
        CHECK.due("24: INNER 2", x.use(0, 2), BAD);
        x.use(0, -1);
        CHECK.due("24: BAD ahead of NOT", x.use(0, 2), BAD);
        CHECK.due("24: BAD ahead of NOT", x.use(0, -2), BAD);
    }

    private static void counts() {
        TrialSearch x = new TrialSearch();
        x.folds(40, 4, 5, -3);
        for (int i = 0; i < 5; i++) {
            for (int times = 0; times <= i; times++) {
                x.use(2, i);
            }
        }
        x.use(2, -1);
        for (int row = 0; row < 40; row++) {
            boolean tests = x.fold(row, 0) == 2;
            int validated = x.fold(row, 1) + 1;
            CHECK.due("25: TRAINED", x.used(row, 2, 0), tests ? 0 : 15 - validated + 1);
            CHECK.due("25: VALIDATED", x.used(row, 2, 1), tests ? 0 : validated);
            CHECK.due("25: TESTED", x.used(row, 2, 2), tests ? 1 : 0);
            CHECK.due("25: for another", x.used(row, 3, 0), 0);
        }
    }

    private static void usedRefused() {
        TrialSearch x = new TrialSearch();
        CHECK.due("25: without FOLDS", x.used(0, 0, 0), BAD);
        x.folds(9, 3, 2, 1);
        CHECK.due("25: row -1", x.used(-1, 0, 0), BAD);
        CHECK.due("25: row 9", x.used(9, 0, 0), BAD);
        CHECK.due("25: OUTER -1", x.used(0, -1, 0), BAD);
        CHECK.due("25: OUTER 3", x.used(0, 3, 0), BAD);
        CHECK.due("25: what -1", x.used(0, 0, -1), BAD);
        CHECK.due("25: what 3", x.used(0, 0, 3), BAD);
        CHECK.due("25: the last ones", x.used(8, 2, 2), 0);
    }

    private static void noRowThatTestsEverChooses() {
        TrialSearch x = new TrialSearch();
        x.folds(50, 5, 3, 12);
        for (int o = 0; o < 5; o++) {
            for (int i = 0; i < 3; i++) {
                x.use(o, i);
            }
            x.use(o, -1);
            for (int i = 0; i < 3; i++) {
                x.use(o, i);
            }
        }
        for (int row = 0; row < 50; row++) {
            for (int o = 0; o < 5; o++) {
                boolean tests = x.used(row, o, 2) > 0;
                boolean chooses = x.used(row, o, 0) + x.used(row, o, 1) > 0;
                CHECK.holds("25: row " + row + " either tests " + o + " or chooses for it", tests != chooses);
            }
        }
    }
}
