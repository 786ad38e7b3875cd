/** Promise 3: points. */
public final class Promise03PointsTest {
    private static final Check CHECK = new Check("Promise 3, points");

    public static void main(String[] args) {
        oneInTheEmptySpace();
        theMost();
        namesOfOneValue();
        underConditions();
        askingChangesNothing();
        CHECK.end();
    }

    private static void oneInTheEmptySpace() {
        CHECK.due("no NAME", new Counted().points(), 1);
    }

    private static void theMost() {
        CHECK.due("30^7", Make.names(7, 30).points(), 21_870_000_000L);
        CHECK.due("30^8", Make.names(8, 30).points(), 656_100_000_000L);
        CHECK.due("16^8 is no int", Make.names(8, 16).points(), 4_294_967_296L);
        CHECK.due("a refused ninth", refusedNinth(), 656_100_000_000L);
    }

    private static long refusedNinth() {
        Counted x = Make.names(8, 30);
        x.name(30, -1, 0);
        return x.points();
    }

    private static void namesOfOneValue() {
        CHECK.due("one VALUE", Make.names(1, 1).points(), 1);
        CHECK.due("eight NAMES of one VALUE", Make.names(8, 1).points(), 1);
        Counted x = Make.names(1, 3);
        x.name(1, 0, 0b1);
        CHECK.due("one VALUE under a condition", x.points(), 3);
    }

    private static void underConditions() {
        Counted x = Make.names(1, 3);
        CHECK.due("one NAME", x.points(), 3);
        x.name(4, 0, 0b101);
        CHECK.due("ON 2 of 3 VALUES", x.points(), 2 * 4 + 1);
        x.name(2, 1, 0b1010);
        CHECK.due("a chain", x.points(), 2 * (2 * 2 + 2) + 1);
        x.name(5, -1, 0);
        CHECK.due("one always there", x.points(), 13 * 5);
        x.name(2, 0, 0b010);
        CHECK.due("a second ON the first", x.points(), (12 + 2) * 5);
        x.name(7, 0, 1 << 20);
        CHECK.due("one that is never there", x.points(), 70);
        x.name(3, 5, 0b1);
        CHECK.due("one ON that", x.points(), 70);
        x.name(2, 0, 0b111);
        CHECK.due("one ON all VALUES", x.points(), 140);
        Counted y = new Counted();
        for (int i = 0; i < 8; i++) {
            y.name(30, i - 1, 1 << 29);
        }
        CHECK.due("the longest chain", y.points(), 7 * 29 + 30);
    }

    private static void askingChangesNothing() {
        Unchanged.by(CHECK, Scene.NEW, "of a new object", x -> x.points(), 1);
        Unchanged.by(CHECK, Scene.BUSY, "with TRIALS", x -> x.points(), 65);
    }
}
