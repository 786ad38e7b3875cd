/** Promise 5: number. */
public final class Promise05NumberTest {
    private static final int NONE = -2;
    private static final long BEHIND_EIGHT_NAMES = -1L << 40;
    private static final Check CHECK = new Check("Promise 5, number");

    public static void main(String[] args) {
        fiveBitsEach();
        valuesBelowMany();
        notThereAreNotLookedAt();
        bitsBehindTheLastName();
        emptySpace();
        belowZero();
        greatestSpace();
        undoesValue();
        askingChangesNothing();
        CHECK.end();
    }

    private static Counted chain() {
        Counted x = new Counted();
        x.name(3, -1, 0);
        x.name(4, 0, 0b001);
        x.name(5, -1, 0);
        return x;
    }

    private static void fiveBitsEach() {
        Counted x = chain();
        CHECK.due("the first", x.number(0), 0);
        CHECK.due("all there", x.number(Make.word(0, 3, 4)), 19);
        CHECK.due("bits of one that is not there keep their place", x.number(Make.word(1, 0, 2)), 22);
        Counted y = Make.names(8, 30);
        long[] steps = {21_870_000_000L, 729_000_000, 24_300_000, 810_000, 27_000, 900, 30, 1};
        for (int name = 0; name < 8; name++) {
            CHECK.due("the bits of NAME " + name, y.number(1L << (5 * name)), steps[name]);
        }
    }

    private static void valuesBelowMany() {
        Counted x = chain();
        CHECK.due("2 of 3", x.number(Make.word(2, 0, 0)), 25);
        CHECK.due("3 of 3", x.number(Make.word(3, 0, 0)), NONE);
        CHECK.due("3 of 4, there", x.number(Make.word(0, 3, 0)), 15);
        CHECK.due("4 of 4, there", x.number(Make.word(0, 4, 0)), NONE);
        CHECK.due("4 of 5", x.number(Make.word(1, 0, 4)), 24);
        CHECK.due("5 of 5", x.number(Make.word(1, 0, 5)), NONE);
        CHECK.due("31", x.number(31), NONE);
        Counted y = Make.line();
        CHECK.due("29 of 30", y.number(29), 29);
        CHECK.due("30 of 30", y.number(30), NONE);
        CHECK.due("31 of 30", y.number(31), NONE);
        Counted z = Make.names(1, 1);
        CHECK.due("0 of 1", z.number(0), 0);
        CHECK.due("1 of 1", z.number(1), NONE);
    }

    private static void notThereAreNotLookedAt() {
        Counted x = chain();
        for (int v = 0; v < 32; v++) {
            CHECK.due("bits of one that is not there: " + v, x.number(Make.word(1, v, 2)), 22);
        }
        Counted y = new Counted();
        y.name(2, -1, 0);
        y.name(2, 0, 0b10);
        y.name(2, 1, 0b01);
        CHECK.due("nor of one ON one that is not there", y.number(Make.word(0, 0, 31)), 0);
        CHECK.due("of one ON one that is there", y.number(Make.word(1, 0, 31)), NONE);
    }

    private static void bitsBehindTheLastName() {
        CHECK.due("the next five", chain().number(Make.word(2, 0, 4, 31)), 29);
        CHECK.due("all of them", chain().number(-1L << 15 | Make.word(2, 0, 4)), 29);
        CHECK.due("behind eight NAMES", Make.names(8, 30).number(BEHIND_EIGHT_NAMES), 0);
        CHECK.due("bit 40 alone", Make.names(8, 30).number(1L << 40), 0);
        CHECK.due("bit 39 is NAME 7's", Make.names(8, 30).number(1L << 39), 16);
    }

    private static void emptySpace() {
        for (long w : new long[] {0, 1, 31, 32, -1, 1L << 32, -(1L << 32), Long.MIN_VALUE, Long.MAX_VALUE}) {
            CHECK.due("no NAME, " + w, new Counted().number(w), 0);
        }
    }

    /** The sign is a bit like any other. */
    private static void belowZero() {
        Counted x = new Counted();
        x.name(3, -1, 0);
        x.name(4, 0, 0b100);
        CHECK.due("-32: VALUE 0, the other not there", x.number(-32), 0);
        CHECK.due("VALUE 1, the other not there", x.number(-32 | 1), 1);
        CHECK.due("VALUE 2, the other has 31", x.number(-32 | 2), NONE);
        CHECK.due("VALUES 2, 3", x.number(-1024 | Make.word(2, 3)), 5);
        CHECK.due("-1: VALUE 31", x.number(-1), NONE);
        CHECK.due("least long", x.number(Long.MIN_VALUE), 0);
        CHECK.due("least long and VALUES", x.number(Long.MIN_VALUE | Make.word(2, 1)), 3);
        CHECK.due("greatest long", x.number(Long.MAX_VALUE), NONE);
    }

    private static void greatestSpace() {
        long last = Make.word(29, 29, 29, 29, 29, 29, 29, 29);
        Counted x = Make.names(8, 30);
        CHECK.due("the last", x.number(last), 656_099_999_999L);
        CHECK.due("the last, below 0", x.number(BEHIND_EIGHT_NAMES | last), 656_099_999_999L);
        for (int name = 0; name < 8; name++) {
            CHECK.due("30 at NAME " + name, x.number(30L << (5 * name)), NONE);
            CHECK.due("30 at NAME " + name + ", below 0", x.number(BEHIND_EIGHT_NAMES | 30L << (5 * name)), NONE);
        }
    }

    private static void undoesValue() {
        Scene made = Scene.EIGHT_NAMES;
        long points = made.play().points();
        for (long p = 0; p < points; p++) {
            Counted x = made.play();
            int[] values = new int[8];
            for (int name = 0; name < 8; name++) {
                int v = x.value(p, name);
                values[name] = v == NONE ? 31 : v;
            }
            CHECK.due("number of POINT " + p, x.number(Make.word(values)), p);
        }
    }

    private static void askingChangesNothing() {
        Unchanged.by(CHECK, Scene.NEW, "no NAME", x -> x.number(-1), 0);
        Unchanged.by(CHECK, Scene.BUSY, "a VALUE not below many", x -> x.number(31), NONE);
        Unchanged.by(CHECK, Scene.BUSY, "the last", x -> x.number(Make.word(2, 3, 1, 4)), 64);
        Unchanged.by(CHECK, Scene.FULL, "below 0", x -> x.number(Long.MIN_VALUE), 0);
    }
}
