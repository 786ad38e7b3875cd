/** Promise 2: name. */
public final class Promise02NameTest {
    private static final int BAD = -1, NONE = -2, NOT = -3, FULL = -4;
    private static final int LEAST = Integer.MIN_VALUE, GREATEST = Integer.MAX_VALUE;
    private static final int ALL_BITS = (1 << 30) - 1;
    private static final Check CHECK = new Check("Promise 2, name");

    public static void main(String[] args) {
        itsNumber();
        manyFrom1To30();
        onFromMinus1ToAnEarlierName();
        setFrom1To2To30Less1();
        setIsNotLookedAtWithoutOn();
        setOfTheLastValue();
        thereOnlyWhenThatOneIsThere();
        notWithTrials();
        fullWith8Names();
        theFirstOfSeveral();
        CHECK.end();
    }

    private static void refused(Scene scene, String text, Scene.Call call, long due) {
        Unchanged.by(CHECK, scene, text, call, due);
    }

    private static void itsNumber() {
        Counted x = new Counted();
        for (int i = 0; i < 8; i++) {
            CHECK.due("NAME " + i, x.name(2, i - 1, 1), i);
        }
    }

    private static void manyFrom1To30() {
        CHECK.due("many 1", new Counted().name(1, -1, 0), 0);
        CHECK.due("many 2", new Counted().name(2, -1, 0), 0);
        CHECK.due("many 29", new Counted().name(29, -1, 0), 0);
        CHECK.due("many 30", new Counted().name(30, -1, 0), 0);
        for (int many : new int[] {0, 31, -1, LEAST, GREATEST}) {
            refused(Scene.NEW, "many " + many, x -> x.name(many, -1, 0), BAD);
        }
        Scene one = Scene.NEW.then(x -> x.name(3, -1, 0));
        refused(one, "many 0, ON 0", x -> x.name(0, 0, 1), BAD);
        refused(one, "many 31, ON 0", x -> x.name(31, 0, 1), BAD);
    }

    private static void onFromMinus1ToAnEarlierName() {
        Scene three = Scene.NEW.then(x -> x.name(3, -1, 0), x -> x.name(2, -1, 0), x -> x.name(4, -1, 0));
        CHECK.due("ON -1", three.play().name(2, -1, 1), 3);
        CHECK.due("ON the first", three.play().name(2, 0, 1), 3);
        CHECK.due("ON the last", three.play().name(2, 2, 1), 3);
        for (int on : new int[] {-2, 3, 4, 8, LEAST, GREATEST}) {
            refused(three, "ON " + on, x -> x.name(2, on, 1), BAD);
        }
        refused(Scene.NEW, "ON itself, the first", x -> x.name(2, 0, 1), BAD);
    }

    private static void setFrom1To2To30Less1() {
        Scene one = Scene.NEW.then(x -> x.name(30, -1, 0));
        CHECK.due("set 1", one.play().name(2, 0, 1), 1);
        CHECK.due("set 2^30 - 1", one.play().name(2, 0, ALL_BITS), 1);
        for (int set : new int[] {0, -1, ALL_BITS + 1, ALL_BITS + 2, LEAST, GREATEST}) {
            refused(one, "set " + set, x -> x.name(2, 0, set), BAD);
        }
    }

    private static void setIsNotLookedAtWithoutOn() {
        for (int set : new int[] {0, -1, 1, ALL_BITS + 1, LEAST, GREATEST}) {
            Counted x = new Counted();
            CHECK.due("without ON, set " + set, x.name(5, -1, set), 0);
            CHECK.due("always there, set " + set, x.points(), 5);
        }
    }

    /** Bit v is VALUE v, up to the thirtieth; bits of no VALUE never come true. */
    private static void setOfTheLastValue() {
        Counted x = Make.line();
        x.name(2, 0, 1 << 29);
        CHECK.due("there with VALUE 29 alone", x.points(), 31);
        CHECK.due("not with VALUE 28", x.value(28, 1), NONE);
        CHECK.due("with VALUE 29", x.value(29, 1), 0);
        Counted y = Make.line();
        y.name(2, 0, 1);
        CHECK.due("with VALUE 0", y.value(1, 1), 1);
        CHECK.due("not with VALUE 1", y.value(2, 1), NONE);
        Counted z = Make.names(1, 3);
        CHECK.due("a bit of no VALUE", z.name(2, 0, 1 << 3), 1);
        CHECK.due("never there", z.points(), 3);
    }

    /** NAME 2 is ON VALUE 0 of NAME 1, which is there with VALUE 1 of NAME 0 alone. */
    private static void thereOnlyWhenThatOneIsThere() {
        Counted x = new Counted();
        x.name(2, -1, 0);
        x.name(2, 0, 0b10);
        x.name(2, 1, 0b01);
        int[][] rows = {{0, NONE, NONE}, {1, 0, 0}, {1, 0, 1}, {1, 1, NONE}};
        CHECK.due("POINTS", x.points(), rows.length);
        for (int p = 0; p < rows.length; p++) {
            for (int name = 0; name < 3; name++) {
                CHECK.due("POINT " + p + ", NAME " + name, x.value(p, name), rows[p][name]);
            }
        }
    }

    private static void notWithTrials() {
        Scene named = Scene.NEW.then(x -> x.name(3, -1, 0));
        refused(named.then(x -> x.trial(0, 0)), "with a TRIAL", x -> x.name(2, -1, 0), NOT);
        refused(named.then(x -> x.guess(0, 1, 1)), "with a TRIAL by GUESS", x -> x.name(2, 0, 1), NOT);
        refused(Scene.NEW.then(x -> x.trial(1, 0)), "with a TRIAL, no NAME", x -> x.name(2, -1, 0), NOT);
        Scene closed = named.then(x -> x.trial(0, 0), x -> x.score(0, 0, false));
        refused(closed, "with a TRIAL that FAILED", x -> x.name(2, -1, 0), NOT);
        refused(Scene.BUSY, "with TRIALS of each STATE", x -> x.name(2, -1, 0), NOT);
        Counted y = named.play();
        y.trial(3, 0);
        y.trial(0, -1);
        y.guess(0, 0, 1);
        CHECK.due("with TRIALS that were refused", y.name(2, -1, 0), 1);
        Counted z = named.play();
        z.folds(9, 2, 2, 1);
        z.plan(9, 2, 0, 0);
        CHECK.due("with FOLDS", z.name(2, -1, 0), 1);
    }

    private static void fullWith8Names() {
        CHECK.due("the eighth", Make.names(7, 2).name(2, -1, 0), 7);
        CHECK.due("the eighth ON the seventh", Make.names(7, 2).name(2, 6, 1), 7);
        refused(Scene.EIGHT_NAMES, "the ninth", x -> x.name(2, -1, 0), FULL);
        refused(Scene.EIGHT_NAMES, "the ninth ON the eighth", x -> x.name(2, 7, 1), FULL);
    }

    private static void theFirstOfSeveral() {
        refused(Scene.EIGHT_NAMES, "BAD many ahead of FULL", x -> x.name(31, -1, 0), BAD);
        refused(Scene.EIGHT_NAMES, "BAD ON ahead of FULL", x -> x.name(2, 8, 1), BAD);
        refused(Scene.EIGHT_NAMES, "BAD set ahead of FULL", x -> x.name(2, 7, 0), BAD);
        refused(Scene.BUSY, "BAD many ahead of NOT", x -> x.name(0, -1, 0), BAD);
        refused(Scene.BUSY, "BAD ON ahead of NOT", x -> x.name(2, 4, 1), BAD);
        refused(Scene.BUSY, "BAD set ahead of NOT", x -> x.name(2, 3, ALL_BITS + 1), BAD);
        refused(Scene.FULL, "NOT ahead of FULL", x -> x.name(2, -1, 0), NOT);
        refused(Scene.FULL, "BAD ahead of NOT and FULL", x -> x.name(2, -2, 1), BAD);
    }
}
