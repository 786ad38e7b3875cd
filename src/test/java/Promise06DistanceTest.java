/** Promise 6: distance. */
public final class Promise06DistanceTest {
    private static final int BAD = -1;
    private static final Check CHECK = new Check("Promise 6, distance");

    public static void main(String[] args) {
        emptySpace();
        cut();
        thereInNeitherOneOrBoth();
        leastAndGreatest();
        pointsFrom0ToTheLast();
        CHECK.end();
    }

    private static void emptySpace() {
        Unchanged.by(CHECK, Scene.NEW, "the only POINT", x -> x.distance(0, 0), 0);
        Unchanged.by(CHECK, Scene.NEW, "a second, q", x -> x.distance(0, 1), BAD);
        Unchanged.by(CHECK, Scene.NEW, "a second, p", x -> x.distance(1, 0), BAD);
        Unchanged.by(CHECK, Scene.NEW, "-1, p", x -> x.distance(-1, 0), BAD);
    }

    private static void cut() {
        int[] dueOf7 = {0, 4, 8, 12, 17, 21, 25};
        int[] dueOf29 = {0, 1, 2, 3, 4, 5, 6};
        int[] dueOf4 = {0, 7, 15, 22};
        for (int v = 0; v < 7; v++) {
            CHECK.due("of 7, apart " + v, Make.names(1, 7).distance(0, v), dueOf7[v]);
            CHECK.due("of 7, the other way", Make.names(1, 7).distance(v, 0), dueOf7[v]);
            CHECK.due("of 29, apart " + v, Make.names(1, 29).distance(v, 0), dueOf29[v]);
            CHECK.due("of 30, apart " + v, Make.line().distance(20, 20 + v), v);
        }
        for (int v = 0; v < 4; v++) {
            CHECK.due("of 4, apart " + v, Make.names(1, 4).distance(0, v), dueOf4[v]);
        }
        CHECK.due("of 29, the farthest", Make.names(1, 29).distance(0, 28), 28);
        CHECK.due("of 2", Make.names(1, 2).distance(0, 1), 15);
        CHECK.due("each NAME cut by itself", Make.names(2, 7).distance(0, 8), 4 + 4);
    }

    private static void thereInNeitherOneOrBoth() {
        Counted x = new Counted();
        x.name(7, -1, 0);
        x.name(2, 0, 0b1000001);
        x.name(4, 1, 0b10);
        long p = x.number(Make.word(0, 0));
        long q = x.number(Make.word(6, 1, 3));
        CHECK.due("there in neither: 0", x.distance(x.number(3), x.number(4)), 4);
        CHECK.due("there in one: 30", x.distance(p, x.number(1)), 4 + 30);
        CHECK.due("there in the other: 30", x.distance(x.number(1), p), 4 + 30);
        CHECK.due("two there in one: 60", x.distance(q, x.number(5)), 4 + 60);
        CHECK.due("in both, in both, in one", x.distance(p, q), 25 + 15 + 30);
        CHECK.due("the other way", x.distance(q, p), 25 + 15 + 30);
        long both = x.number(Make.word(0, 1, 0));
        CHECK.due("in both", x.distance(both, x.number(Make.word(0, 1, 3))), 22);
        CHECK.due("in both, alike", x.distance(both, q), 25 + 22);
    }

    private static void leastAndGreatest() {
        CHECK.due("to itself", Make.names(8, 30).distance(656_099_999_999L, 656_099_999_999L), 0);
        CHECK.due("from end to end", Make.names(8, 30).distance(0, 656_099_999_999L), 8 * 29);
        CHECK.due("NAMES of one VALUE", Make.names(8, 1).distance(0, 0), 0);
        Counted x = Make.names(1, 2);
        for (int i = 1; i < 8; i++) {
            x.name(1, 0, 0b10);
        }
        CHECK.due("seven in one, none in the other", x.distance(0, 1), 15 + 7 * 30);
    }

    private static void pointsFrom0ToTheLast() {
        Unchanged.by(CHECK, Scene.BUSY, "the last and the first", x -> x.distance(64, 0), 20 + 22 + 30 + 24);
        Unchanged.by(CHECK, Scene.BUSY, "the first and the last", x -> x.distance(0, 64), 20 + 22 + 30 + 24);
        long[] none = {-1, 65, 1L << 32, -(1L << 32), Long.MIN_VALUE, Long.MAX_VALUE};
        for (long p : none) {
            Unchanged.by(CHECK, Scene.BUSY, "p " + p, x -> x.distance(p, 0), BAD);
            Unchanged.by(CHECK, Scene.BUSY, "q " + p, x -> x.distance(0, p), BAD);
            Unchanged.by(CHECK, Scene.BUSY, "both " + p, x -> x.distance(p, p), BAD);
        }
    }
}
