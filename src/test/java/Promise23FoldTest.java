/** Promise 23: fold. */
public final class Promise23FoldTest {
    private static final int BAD = -1;
    private static final int LEAST = Integer.MIN_VALUE, GREATEST = Integer.MAX_VALUE;
    private static final Check CHECK = new Check("Promise 23, fold");

    public static void main(String[] args) {
        rowFrom0ToTheLast();
        what0Or1();
        withoutFolds();
        inTheOrderOfTheirHashes();
        allRowsInOrder();
        moduloOuterAndInner();
        fewerRowsThanFolds();
        CHECK.end();
    }

    private static void rowFrom0ToTheLast() {
        CHECK.holds("row 0", Scene.BUSY.play().fold(0, 0) >= 0);
        CHECK.holds("row 22", Scene.BUSY.play().fold(22, 0) >= 0);
        CHECK.holds("row 199", Scene.FULL.play().fold(199, 1) >= 0);
        for (int row : new int[] {-1, 23, 199, 200, LEAST, GREATEST}) {
            Unchanged.by(CHECK, Scene.BUSY, "row " + row + ", OUTER", x -> x.fold(row, 0), BAD);
            Unchanged.by(CHECK, Scene.BUSY, "row " + row + ", INNER", x -> x.fold(row, 1), BAD);
        }
        Unchanged.by(CHECK, Scene.FULL, "row 200", x -> x.fold(200, 0), BAD);
    }

    private static void what0Or1() {
        for (int what : new int[] {-1, 2, LEAST, GREATEST}) {
            Unchanged.by(CHECK, Scene.BUSY, "what " + what, x -> x.fold(0, what), BAD);
        }
        long outer = Scene.BUSY.play().fold(3, 0);
        long inner = Scene.BUSY.play().fold(3, 1);
        Unchanged.by(CHECK, Scene.BUSY, "what 0", x -> x.fold(3, 0), outer);
        Unchanged.by(CHECK, Scene.BUSY, "what 1", x -> x.fold(3, 1), inner);
    }

    private static void withoutFolds() {
        Unchanged.by(CHECK, Scene.NEW, "row 0", x -> x.fold(0, 0), BAD);
        Unchanged.by(CHECK, Scene.NEW, "row 0", x -> x.fold(0, 1), BAD);
        Unchanged.by(CHECK, Scene.NEW, "row -1", x -> x.fold(-1, 0), BAD);
        Unchanged.by(CHECK, Scene.NO_FOLDS, "row 0, with TRIALS", x -> x.fold(0, 0), BAD);
        Counted y = new Counted();
        y.folds(201, 2, 2, 0);
        CHECK.due("refused FOLDS", y.fold(0, 0), BAD);
    }

    /** Twelve rows by HASH(s, row) as signed ints: HASHES below 0 come first. */
    private static void inTheOrderOfTheirHashes() {
        int[] seeds = {0, -1, GREATEST, LEAST, 11};
        int[][] orders = {{11, 1, 8, 6, 0, 3, 10, 2, 5, 4, 9, 7}, {0, 11, 2, 5, 10, 3, 1, 7, 6, 8, 4, 9},
            {7, 11, 8, 5, 10, 0, 2, 1, 6, 3, 9, 4}, {8, 1, 4, 6, 3, 2, 9, 11, 10, 7, 0, 5},
            {0, 5, 7, 8, 10, 4, 11, 6, 2, 9, 3, 1}};
        for (int i = 0; i < seeds.length; i++) {
            Counted x = new Counted();
            x.folds(12, 3, 2, seeds[i]);
            for (int p = 0; p < 12; p++) {
                String text = "seed " + seeds[i] + ", place " + p;
                CHECK.due(text + ", OUTER", x.fold(orders[i][p], 0), p % 3);
                CHECK.due(text + ", INNER", x.fold(orders[i][p], 1), p / 3 % 2);
            }
        }
    }

    private static void allRowsInOrder() {
        for (int seed : new int[] {0, 1, -1, 99, LEAST, GREATEST}) {
            Counted x = new Counted();
            x.folds(200, 7, 4, seed);
            for (int row = 0; row < 200; row++) {
                int place = 0;
                for (int other = 0; other < 200; other++) {
                    place += Model.hash(seed, other) < Model.hash(seed, row) ? 1 : 0;
                }
                CHECK.due("OUTER fold of " + row, x.fold(row, 0), place % 7);
                CHECK.due("INNER fold of " + row, x.fold(row, 1), place / 7 % 4);
            }
        }
    }

    /** With seed 0 and twelve rows row 7 is the last, at place 11, row 9 at 10, row 4 at 9 and row 11 at 0. */
    private static void moduloOuterAndInner() {
        int[][] folds = {{2, 2}, {3, 4}, {6, 2}, {10, 10}};
        int[][] outer = {{1, 0, 1, 0}, {2, 1, 0, 0}, {5, 4, 3, 0}, {1, 0, 9, 0}};
        int[][] inner = {{1, 1, 0, 0}, {3, 3, 3, 0}, {1, 1, 1, 0}, {1, 1, 0, 0}};
        int[] rows = {7, 9, 4, 11};
        for (int i = 0; i < folds.length; i++) {
            Counted x = new Counted();
            x.folds(12, folds[i][0], folds[i][1], 0);
            for (int j = 0; j < rows.length; j++) {
                String text = folds[i][0] + " and " + folds[i][1] + ", row " + rows[j];
                CHECK.due(text + ", OUTER", x.fold(rows[j], 0), outer[i][j]);
                CHECK.due(text + ", INNER", x.fold(rows[j], 1), inner[i][j]);
            }
        }
    }

    private static void fewerRowsThanFolds() {
        Counted x = new Counted();
        x.folds(1, 10, 10, 8);
        CHECK.due("one row, OUTER", x.fold(0, 0), 0);
        CHECK.due("one row, INNER", x.fold(0, 1), 0);
        CHECK.due("no second", x.fold(1, 0), BAD);
    }
}
