/** Promise 4: value. */
public final class Promise04ValueTest {
    private static final int BAD = -1, NONE = -2;
    private static final Check CHECK = new Check("Promise 4, value");

    public static void main(String[] args) {
        inOrder();
        notThereArePassedOver();
        pointFrom0ToTheLast();
        nameFrom0ToTheLast();
        emptySpace();
        greatestSpace();
        noneWhereItIsNotThere();
        theFirstOfSeveral();
        CHECK.end();
    }

    private static void refused(Scene scene, String text, Scene.Call call, long due) {
        Unchanged.by(CHECK, scene, text, call, due);
    }

    private static void rowsAre(Counted x, int[][] rows) {
        CHECK.due("as many as listed", x.points(), rows.length);
        for (int p = 0; p < rows.length; p++) {
            for (int name = 0; name < rows[p].length; name++) {
                CHECK.due("POINT " + p + ", NAME " + name, x.value(p, name), rows[p][name]);
            }
        }
    }

    private static void inOrder() {
        Counted x = new Counted();
        x.name(2, -1, 0);
        x.name(1, -1, 0);
        x.name(3, -1, 0);
        rowsAre(x, new int[][] {{0, 0, 0}, {0, 0, 1}, {0, 0, 2}, {1, 0, 0}, {1, 0, 1}, {1, 0, 2}});
    }

    /** A NAME under a condition behind one that is always there: its VALUES turn fastest. */
    private static void notThereArePassedOver() {
        Counted x = new Counted();
        x.name(2, -1, 0);
        x.name(3, -1, 0);
        x.name(2, 0, 0b10);
        rowsAre(x, new int[][] {{0, 0, NONE}, {0, 1, NONE}, {0, 2, NONE}, {1, 0, 0}, {1, 0, 1}, {1, 1, 0}, {1, 1, 1},
            {1, 2, 0}, {1, 2, 1}});
        Counted y = new Counted();
        y.name(2, -1, 0);
        y.name(2, 0, 0b01);
        y.name(2, -1, 0);
        rowsAre(y, new int[][] {{0, 0, 0}, {0, 0, 1}, {0, 1, 0}, {0, 1, 1}, {1, NONE, 0}, {1, NONE, 1}});
    }

    private static void pointFrom0ToTheLast() {
        CHECK.due("POINT 0", Scene.BUSY.play().value(0, 0), 0);
        CHECK.due("the last POINT", Scene.BUSY.play().value(64, 0), 2);
        CHECK.due("the last POINT", Scene.BUSY.play().value(64, 3), 4);
        long[] none = {-1, 65, 66, 1L << 32, (1L << 32) + 1, -(1L << 32), Long.MIN_VALUE, Long.MAX_VALUE};
        for (long p : none) {
            refused(Scene.BUSY, "POINT " + p, x -> x.value(p, 0), BAD);
        }
    }

    private static void nameFrom0ToTheLast() {
        CHECK.due("NAME 3", Scene.BUSY.play().value(0, 3), 0);
        for (int name : new int[] {-1, 4, 8, Integer.MIN_VALUE, Integer.MAX_VALUE}) {
            refused(Scene.BUSY, "NAME " + name, x -> x.value(0, name), BAD);
        }
        CHECK.due("NAME 7", Scene.FULL.play().value(5, 7), 5);
        refused(Scene.FULL, "NAME 8", x -> x.value(5, 8), BAD);
    }

    private static void emptySpace() {
        refused(Scene.NEW, "no NAME", x -> x.value(0, 0), BAD);
        refused(Scene.NEW, "no NAME, NAME -1", x -> x.value(0, -1), BAD);
    }

    private static void greatestSpace() {
        Counted x = Make.names(8, 30);
        for (int name = 0; name < 8; name++) {
            CHECK.due("the first POINT, NAME " + name, x.value(0, name), 0);
            CHECK.due("the last POINT, NAME " + name, x.value(656_099_999_999L, name), 29);
            CHECK.due("one less, NAME " + name, x.value(656_099_999_998L, name), name < 7 ? 29 : 28);
            CHECK.due("30^7, NAME " + name, x.value(21_870_000_000L, name), name == 0 ? 1 : 0);
            CHECK.due("30^7 - 1, NAME " + name, x.value(21_869_999_999L, name), name == 0 ? 0 : 29);
        }
        CHECK.due("behind the last", x.value(656_100_000_000L, 0), BAD);
        CHECK.due("behind the last", x.value(656_100_000_000L, 7), BAD);
    }

    private static void noneWhereItIsNotThere() {
        refused(Scene.BUSY, "NAME 2 is not there", x -> x.value(0, 2), NONE);
        refused(Scene.BUSY, "NAME 1 is not there", x -> x.value(30, 1), NONE);
        refused(Scene.BUSY, "NAME 1 is there", x -> x.value(29, 1), 3);
        refused(Scene.BUSY, "NAME 1 is there again", x -> x.value(35, 1), 0);
    }

    private static void theFirstOfSeveral() {
        refused(Scene.BUSY, "BAD POINT ahead of NONE", x -> x.value(65, 2), BAD);
        refused(Scene.BUSY, "BAD POINT and NAME", x -> x.value(65, 4), BAD);
    }
}
