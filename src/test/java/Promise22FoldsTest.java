/** Promise 22: folds. */
public final class Promise22FoldsTest {
    private static final int BAD = -1;
    private static final int LEAST = Integer.MIN_VALUE, GREATEST = Integer.MAX_VALUE;
    private static final Check CHECK = new Check("Promise 22, folds");

    public static void main(String[] args) {
        rowsFrom1To200();
        outerFrom2To10();
        innerFrom2To10();
        anySeed();
        allCountsAre0();
        inPlaceOfOnesThatWere();
        whateverTheRestIs();
        CHECK.end();
    }

    private static void refused(String text, Scene.Call call) {
        Unchanged.by(CHECK, Scene.NEW, "without FOLDS, " + text, call, BAD);
        Unchanged.by(CHECK, Scene.NO_FOLDS, "TRIALS without FOLDS, " + text, call, BAD);
        Unchanged.by(CHECK, Scene.BUSY, text, call, BAD);
    }

    private static void rowsFrom1To200() {
        for (int rows : new int[] {1, 2, 199, 200}) {
            Counted x = new Counted();
            CHECK.due(rows + " rows", x.folds(rows, 2, 2, 1), 1);
            CHECK.holds("the last of " + rows, x.fold(rows - 1, 0) >= 0);
            CHECK.due("behind the last of " + rows, x.fold(rows, 0), BAD);
        }
        for (int rows : new int[] {0, 201, -1, LEAST, GREATEST}) {
            refused(rows + " rows", x -> x.folds(rows, 2, 2, 1));
        }
    }

    private static void outerFrom2To10() {
        for (int outer : new int[] {2, 3, 9, 10}) {
            Counted x = new Counted();
            CHECK.due("OUTER " + outer, x.folds(30, outer, 2, 1), 1);
            CHECK.due("the last of OUTER " + outer, x.used(0, outer - 1, 0), 0);
            CHECK.due("behind the last of OUTER " + outer, x.used(0, outer, 0), BAD);
        }
        for (int outer : new int[] {1, 11, 0, -1, LEAST, GREATEST}) {
            refused("OUTER " + outer, x -> x.folds(30, outer, 2, 1));
        }
    }

    private static void innerFrom2To10() {
        for (int inner : new int[] {2, 3, 9, 10}) {
            Counted x = new Counted();
            CHECK.due("INNER " + inner, x.folds(30, 2, inner, 1), 1);
            CHECK.due("behind the last of INNER " + inner, x.use(0, inner), BAD);
            CHECK.holds("the last of INNER " + inner, x.use(0, inner - 1) >= 0);
        }
        for (int inner : new int[] {1, 11, 0, -1, LEAST, GREATEST}) {
            refused("INNER " + inner, x -> x.folds(30, 2, inner, 1));
        }
    }

    private static void anySeed() {
        for (int seed : new int[] {LEAST, -1, 0, 1, GREATEST}) {
            CHECK.due("seed " + seed, new Counted().folds(200, 10, 10, seed), 1);
        }
    }

    private static void countsAre0(String text, Counted x, int rows, int outer) {
        for (int row = 0; row < rows; row++) {
            for (int o = 0; o < outer; o++) {
                for (int what = 0; what < 3; what++) {
                    CHECK.due(text + ", row " + row + " for " + o + ", what " + what, x.used(row, o, what), 0);
                }
            }
        }
    }

    private static void allCountsAre0() {
        Counted x = new Counted();
        x.folds(16, 10, 10, 3);
        countsAre0("at first", x, 16, 10);
        Counted y = new Counted();
        y.folds(16, 10, 10, 3);
        for (int o = 0; o < 10; o++) {
            y.use(o, 9);
            y.use(o, -1);
        }
        y.folds(15, 10, 10, 3);
        countsAre0("and again", y, 15, 10);
        CHECK.due("like ones, made again", againAlike(), 0);
    }

    private static long againAlike() {
        Counted x = new Counted();
        x.folds(9, 2, 2, 5);
        x.use(0, 0);
        x.folds(9, 2, 2, 5);
        long sum = 0;
        for (int row = 0; row < 9; row++) {
            sum += x.used(row, 0, 0) + x.used(row, 0, 1);
        }
        return sum;
    }

    private static void inPlaceOfOnesThatWere() {
        Counted x = new Counted();
        x.folds(20, 4, 3, 5);
        x.use(1, 2);
        x.use(1, -1);
        CHECK.due("fewer of all", x.folds(12, 3, 2, 6), 1);
        CHECK.due("fewer rows", x.fold(12, 0), BAD);
        CHECK.due("fewer OUTER folds", x.used(0, 3, 0), BAD);
        CHECK.due("fewer OUTER folds", x.use(3, 0), BAD);
        CHECK.due("fewer INNER folds", x.use(0, 2), BAD);
        CHECK.due("none was TESTED: choose", x.use(1, 1), 4);
        CHECK.due("none was TESTED: test", x.use(1, -1), 4);
        CHECK.due("more of all", x.folds(200, 10, 10, 6), 1);
        CHECK.holds("more rows", x.fold(199, 0) >= 0);
        CHECK.due("more OUTER folds", x.use(9, -1), 20);
        CHECK.due("more INNER folds", x.use(8, 9), 18);
    }

    private static void whateverTheRestIs() {
        Counted x = Scene.BUSY.play();
        CHECK.due("with TRIALS and a BRACKET", x.folds(5, 2, 2, 0), 1);
        CHECK.due("TRIALS stay", x.told(7, 0), 0);
        CHECK.due("THE BRACKET stays", x.round(2), 18);
        CHECK.due("THE SPACE stays", x.points(), 65);
    }
}
