/** Promises 1 to 6: the new object and the space. */
public final class SpaceTest {
    private static final int BAD = TrialSearch.BAD, NONE = TrialSearch.NONE, NOT = TrialSearch.NOT;
    private static final int FULL = TrialSearch.FULL;
    private static final Check CHECK = new Check("SpaceTest");

    public static void main(String[] args) {
        newObject();
        nameNumbers();
        nameRefused();
        nameChangesNothingWhenRefused();
        pointsCounted();
        valuesInOrder();
        valueRefused();
        numberOfBits();
        numberBelowZero();
        numberRefused();
        numberUndoesValue();
        distances();
        distanceRefused();
        CHECK.end();
    }

    private static void newObject() {
        TrialSearch x = new TrialSearch();
        CHECK.due("1: points of a new object", x.points(), 1);
        CHECK.due("1: no TRIAL", x.point(0), BAD);
        CHECK.due("1: no TRIAL to tell of", x.told(0, 0), BAD);
        CHECK.due("1: no BRACKET", x.round(0), NONE);
        CHECK.due("1: no COST", x.cost(), 0);
        CHECK.due("1: no FOLDS", x.fold(0, 0), BAD);
        CHECK.due("1: the only POINT's number", x.number(0), 0);
        CHECK.due("1: objects share nothing", new TrialSearch().name(2, -1, 0), 0);
        CHECK.due("1: objects share nothing", x.name(2, -1, 0), 0);
    }

    private static void nameNumbers() {
        TrialSearch x = new TrialSearch();
        CHECK.due("2: least many", x.name(1, -1, 0), 0);
        CHECK.due("2: most many", x.name(30, -1, 0), 1);
        CHECK.due("2: least set", x.name(2, 0, 1), 2);
        CHECK.due("2: greatest set", x.name(2, 1, (1 << 30) - 1), 3);
        CHECK.due("2: set is not looked at without ON", x.name(2, -1, -77), 4);
        CHECK.due("2: set is not looked at without ON", x.name(2, -1, Integer.MAX_VALUE), 5);
        CHECK.due("2: a set of no VALUE of that NAME", x.name(2, 0, 2), 6);
        CHECK.due("2: it is never there", x.value(0, 6), NONE);
        CHECK.due("2: the eighth", x.name(2, 6, 1), 7);
        CHECK.due("2: FULL", x.name(2, 6, 1), FULL);
    }

    private static void nameRefused() {
        TrialSearch x = new TrialSearch();
        CHECK.due("2: many 0", x.name(0, -1, 0), BAD);
        CHECK.due("2: many 31", x.name(31, -1, 0), BAD);
        CHECK.due("2: many least int", x.name(Integer.MIN_VALUE, -1, 0), BAD);
        CHECK.due("2: ON -2", x.name(2, -2, 1), BAD);
        CHECK.due("2: ON itself", x.name(2, 0, 1), BAD);
        CHECK.due("2: a NAME", x.name(2, -1, 0), 0);
        CHECK.due("2: ON one that there is not", x.name(2, 1, 1), BAD);
        CHECK.due("2: ON greatest int", x.name(2, Integer.MAX_VALUE, 1), BAD);
        CHECK.due("2: set 0", x.name(2, 0, 0), BAD);
        CHECK.due("2: set -1", x.name(2, 0, -1), BAD);
        CHECK.due("2: set 2^30", x.name(2, 0, 1 << 30), BAD);
        x.trial(0, 0);
        CHECK.due("2: NOT with TRIALS", x.name(2, -1, 0), NOT);
        CHECK.due("2: BAD ahead of NOT", x.name(31, -1, 0), BAD);
        CHECK.due("2: BAD ahead of NOT", x.name(2, 0, 0), BAD);
    }

    private static void nameChangesNothingWhenRefused() {
        TrialSearch x = new TrialSearch();
        for (int i = 0; i < 8; i++) {
            x.name(2, -1, 0);
        }
        CHECK.due("2: BAD ahead of FULL", x.name(31, -1, 0), BAD);
        CHECK.due("2: ON the ninth is BAD, not FULL", x.name(2, 8, 1), BAD);
        CHECK.due("2: FULL", x.name(3, -1, 0), FULL);
        CHECK.due("2: refused ones change nothing", x.points(), 256);
        x.trial(0, 0);
        CHECK.due("2: NOT ahead of FULL", x.name(3, -1, 0), NOT);
    }

    private static void pointsCounted() {
        TrialSearch x = new TrialSearch();
        x.name(3, -1, 0);
        CHECK.due("3: one NAME", x.points(), 3);
        x.name(4, 0, 0b101);
        CHECK.due("3: on 2 of 3 VALUES", x.points(), 2 * 4 + 1);
        x.name(2, 1, 0b1010);
        CHECK.due("3: a chain", x.points(), 2 * (2 * 2 + 2) + 1);
        x.name(5, -1, 0);
        CHECK.due("3: one always there multiplies", x.points(), 13 * 5);
        x.name(2, 0, 0b010);
        CHECK.due("3: a second one on the first", x.points(), (12 + 2) * 5);
        x.name(7, 0, 1 << 20);
        CHECK.due("3: one that is never there", x.points(), 70);
        TrialSearch y = new TrialSearch();
        for (int i = 0; i < 8; i++) {
            y.name(30, -1, 0);
        }
        CHECK.due("3: the most", y.points(), 656_100_000_000L);
    }

    /** Two free NAMES with a dependent one behind both: its VALUES turn fastest. */
    private static void valuesInOrder() {
        TrialSearch x = new TrialSearch();
        x.name(2, -1, 0);
        x.name(3, -1, 0);
        x.name(2, 0, 0b10);
        int[][] rows = {{0, 0, NONE}, {0, 1, NONE}, {0, 2, NONE}, {1, 0, 0}, {1, 0, 1}, {1, 1, 0}, {1, 1, 1},
            {1, 2, 0}, {1, 2, 1}};
        CHECK.due("4: as many as listed", x.points(), rows.length);
        for (int p = 0; p < rows.length; p++) {
            for (int name = 0; name < 3; name++) {
                CHECK.due("4: value " + p + " " + name, x.value(p, name), rows[p][name]);
            }
        }
    }

    private static void valueRefused() {
        TrialSearch x = new TrialSearch();
        CHECK.due("4: no NAME", x.value(0, 0), BAD);
        x.name(3, -1, 0);
        x.name(2, 0, 1);
        CHECK.due("4: last POINT", x.value(3, 0), 2);
        CHECK.due("4: not there", x.value(3, 1), NONE);
        CHECK.due("4: behind the last POINT", x.value(4, 0), BAD);
        CHECK.due("4: POINT -1", x.value(-1, 0), BAD);
        CHECK.due("4: POINT 2^32", x.value(1L << 32, 0), BAD);
        CHECK.due("4: least long", x.value(Long.MIN_VALUE, 0), BAD);
        CHECK.due("4: NAME -1", x.value(0, -1), BAD);
        CHECK.due("4: NAME 2", x.value(0, 2), BAD);
        CHECK.due("4: BAD ahead of NONE", x.value(4, 1), BAD);
    }

    private static long word(int... values) {
        long w = 0;
        for (int i = 0; i < values.length; i++) {
            w |= (long) values[i] << (5 * i);
        }
        return w;
    }

    private static void numberOfBits() {
        TrialSearch x = new TrialSearch();
        CHECK.due("5: no NAME: bits are not looked at", x.number(31), 0);
        x.name(3, -1, 0);
        x.name(4, 0, 0b001);
        x.name(5, -1, 0);
        CHECK.due("5: all there", x.number(word(0, 3, 4)), 19);
        CHECK.due("5: first", x.number(0), 0);
        CHECK.due("5: bits of one that is not there keep their place", x.number(word(1, 0, 2)), 22);
        CHECK.due("5: and are not looked at", x.number(word(1, 31, 2)), 22);
        CHECK.due("5: bits behind the last NAME are not looked at", x.number(word(2, 0, 4, 31)), 29);
        TrialSearch y = new TrialSearch();
        for (int i = 0; i < 8; i++) {
            y.name(30, -1, 0);
        }
        CHECK.due("5: greatest", y.number(word(29, 29, 29, 29, 29, 29, 29, 29)), 656_099_999_999L);
        CHECK.due("5: NAME 7's bits", y.number(word(0, 0, 0, 0, 0, 0, 0, 5)), 5);
        CHECK.due("5: NAME 0's bits", y.number(1), 21_870_000_000L);
    }

    /** A long's sign is a bit like any other, and behind those of the eighth NAME. */
    private static void numberBelowZero() {
        TrialSearch x = new TrialSearch();
        CHECK.due("5: no NAME, -1", x.number(-1), 0);
        CHECK.due("5: no NAME, -2^32", x.number(-(1L << 32)), 0);
        CHECK.due("5: no NAME, least long", x.number(Long.MIN_VALUE), 0);
        x.name(3, -1, 0);
        x.name(4, 0, 0b100);
        CHECK.due("5: -32: VALUE 0, the other not there", x.number(-32), 0);
        CHECK.due("5: VALUE 1, the other not there", x.number(-32 | 1), 1);
        CHECK.due("5: VALUE 2, the other has 31", x.number(-32 | 2), NONE);
        CHECK.due("5: VALUES 2, 3", x.number(-1024 | word(2, 3)), 5);
        CHECK.due("5: -1: VALUE 31", x.number(-1), NONE);
        CHECK.due("5: least long", x.number(Long.MIN_VALUE), 0);
        CHECK.due("5: least long and VALUES", x.number(Long.MIN_VALUE | word(2, 1)), 3);
        TrialSearch y = new TrialSearch();
        for (int i = 0; i < 8; i++) {
            y.name(30, -1, 0);
        }
        long behind = -1L << 40;
        CHECK.due("5: bits behind eight NAMES", y.number(behind), 0);
        CHECK.due("5: and the greatest", y.number(behind | word(29, 29, 29, 29, 29, 29, 29, 29)), 656_099_999_999L);
        CHECK.due("5: and VALUE 30 of NAME 7", y.number(behind | word(0, 0, 0, 0, 0, 0, 0, 30)), NONE);
    }

    private static void numberRefused() {
        TrialSearch x = new TrialSearch();
        x.name(3, -1, 0);
        x.name(4, 0, 0b100);
        CHECK.due("5: VALUE 2 of 3", x.number(word(2, 3)), 5);
        CHECK.due("5: VALUE 3 of 3", x.number(word(3, 0)), NONE);
        CHECK.due("5: VALUE 31", x.number(31), NONE);
        CHECK.due("5: VALUE 4 of 4, there", x.number(word(2, 4)), NONE);
        CHECK.due("5: VALUE 4 of 4, not there", x.number(word(1, 4)), 1);
    }

    private static void numberUndoesValue() {
        TrialSearch x = new TrialSearch();
        x.name(4, -1, 0);
        x.name(3, 0, 0b0110);
        x.name(2, -1, 0);
        x.name(5, 1, 0b101);
        x.name(2, 3, 0b11000);
        x.name(3, 2, 0b10);
        for (long p = 0; p < x.points(); p++) {
            int[] values = new int[6];
            for (int name = 0; name < 6; name++) {
                // any five bits will do where a NAME is not there
                values[name] = x.value(p, name) == NONE ? 31 : x.value(p, name);
            }
            CHECK.due("5: number of POINT " + p, x.number(word(values)), p);
        }
    }

    private static void distances() {
        TrialSearch x = new TrialSearch();
        CHECK.due("6: the only POINT", x.distance(0, 0), 0);
        x.name(7, -1, 0);
        x.name(2, 0, 0b1000001);
        x.name(4, 1, 0b10);
        long p = x.number(word(0, 0));
        CHECK.due("6: to itself", x.distance(p, p), 0);
        CHECK.due("6: 30 by 7, cut", x.distance(x.number(1), x.number(2)), 4);
        CHECK.due("6: 120 by 7, cut", x.distance(x.number(1), x.number(word(5))), 17);
        CHECK.due("6: there in one: 30", x.distance(p, x.number(1)), 4 + 30);
        CHECK.due("6: there in neither: 0", x.distance(x.number(3), x.number(4)), 4);
        long q = x.number(word(6, 1, 3));
        CHECK.due("6: VALUES 0 and 6 of 7, 0 and 1 of 2, in one", x.distance(p, q), 25 + 15 + 30);
        CHECK.due("6: the other way", x.distance(q, p), 70);
        CHECK.due("6: in both, apart 3 of 4, cut", x.distance(x.number(word(0, 1, 0)), x.number(word(0, 1, 3))), 22);
    }

    private static void distanceRefused() {
        TrialSearch x = new TrialSearch();
        CHECK.due("6: POINT 1 of 1", x.distance(0, 1), BAD);
        x.name(3, -1, 0);
        CHECK.due("6: last ones", x.distance(2, 0), 20);
        CHECK.due("6: p behind the last", x.distance(3, 0), BAD);
        CHECK.due("6: q behind the last", x.distance(0, 3), BAD);
        CHECK.due("6: p below 0", x.distance(-1, 0), BAD);
        CHECK.due("6: q below 0", x.distance(0, -1), BAD);
        CHECK.due("6: both", x.distance(Long.MAX_VALUE, Long.MIN_VALUE), BAD);
    }
}
