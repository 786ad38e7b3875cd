/** Promise 7: trial, with HASH and PICKED. */
public final class Promise07TrialTest {
    private static final int BAD = -1, NONE = -2, FULL = -4;
    private static final int LEAST = Integer.MIN_VALUE, GREATEST = Integer.MAX_VALUE;
    private static final Check CHECK = new Check("Promise 7, trial");

    public static void main(String[] args) {
        howFrom0To2();
        gridFrom0On();
        gridModuloThePoints();
        drawAndNameByNameWithAnySeed();
        emptySpace();
        hashWrapsAround();
        pickedBits();
        pickedIsTheFirstBelow();
        pickedBeyondAnInt();
        nameByName();
        nameByNamePassesOverOnesNotThere();
        aNewTrial();
        fullWith60Trials();
        theFirstOfSeveral();
        CHECK.end();
    }

    private static void refused(Scene scene, String text, Scene.Call call, long due) {
        Unchanged.by(CHECK, scene, text, call, due);
    }

    private static long pointOf(Counted x, int how, int seed) {
        return x.point(x.trial(how, seed));
    }

    private static void howFrom0To2() {
        Counted x = Make.line();
        CHECK.due("how 0", x.trial(0, 1), 0);
        CHECK.due("how 1", x.trial(1, 1), 1);
        CHECK.due("how 2", x.trial(2, 1), 2);
        for (int how : new int[] {-1, 3, LEAST, GREATEST}) {
            refused(Scene.NEW, "how " + how, y -> y.trial(how, 1), BAD);
            refused(Scene.BUSY, "how " + how, y -> y.trial(how, 1), BAD);
        }
    }

    private static void gridFrom0On() {
        CHECK.due("GRID 0", Make.line().trial(0, 0), 0);
        CHECK.due("GRID of the greatest int", Make.line().trial(0, GREATEST), 0);
        for (int seed : new int[] {-1, -2, -65, LEAST}) {
            refused(Scene.NEW, "GRID " + seed, x -> x.trial(0, seed), BAD);
            refused(Scene.BUSY, "GRID " + seed, x -> x.trial(0, seed), BAD);
        }
    }

    private static void gridModuloThePoints() {
        CHECK.due("0 of 7", pointOf(Make.names(1, 7), 0, 0), 0);
        CHECK.due("6 of 7", pointOf(Make.names(1, 7), 0, 6), 6);
        CHECK.due("7 of 7", pointOf(Make.names(1, 7), 0, 7), 0);
        CHECK.due("8 of 7", pointOf(Make.names(1, 7), 0, 8), 1);
        CHECK.due("greatest int of 7", pointOf(Make.names(1, 7), 0, GREATEST), 1);
        CHECK.due("greatest int of 16^7", pointOf(Make.names(7, 16), 0, GREATEST), (1 << 28) - 1);
        CHECK.due("greatest int of 30^8", pointOf(Make.names(8, 30), 0, GREATEST), GREATEST);
    }

    private static void drawAndNameByNameWithAnySeed() {
        for (int seed : new int[] {LEAST, -1, 0, GREATEST}) {
            CHECK.due("DRAW " + seed, Make.line().trial(1, seed), 0);
            CHECK.due("NAME by NAME " + seed, Make.line().trial(2, seed), 0);
        }
    }

    private static void emptySpace() {
        for (int how = 0; how <= 2; how++) {
            CHECK.due("the only POINT, how " + how, pointOf(new Counted(), how, 99), 0);
            CHECK.due("eight NAMES of one VALUE, how " + how, pointOf(Make.names(8, 1), how, 99), 0);
        }
    }

    /** Of 2^32 POINTS a DRAW takes all bits of HASH(s, 1). The seed 1640531527 and 0x9E3779B9 make 0 as ints. */
    private static void hashWrapsAround() {
        int[] seeds = {0, 1, -1, LEAST, GREATEST, 1_640_531_526, 1_640_531_527, 1_640_531_528, 123_456_789};
        long[] hashes = {2_462_723_854L, 2_527_132_011L, 920_564_995L, 3_172_115_818L, 849_629_901L, 2_180_083_513L,
            0L, 1_364_076_727L, 1_573_771_921L};
        for (int i = 0; i < seeds.length; i++) {
            CHECK.due("HASH(" + seeds[i] + ", 1)", pointOf(Make.names(8, 16), 1, seeds[i]), hashes[i]);
        }
    }

    /** 2^b is n or more: at n = 2^b there are b bits, just above it b + 1. */
    private static void pickedBits() {
        int[] many = {1, 2, 3, 4, 5, 8, 16, 17, 29, 30};
        int[][] due = {{0, 0, 0, 0}, {1, 1, 1, 1}, {2, 2, 2, 1}, {2, 2, 2, 3}, {4, 4, 0, 2}, {4, 4, 5, 7},
            {9, 9, 11, 14}, {3, 11, 2, 8}, {18, 18, 22, 8}, {18, 18, 22, 29}};
        for (int i = 0; i < many.length; i++) {
            for (int seed = 0; seed < 4; seed++) {
                CHECK.due("PICKED below " + many[i] + " with " + seed, pointOf(Make.names(1, many[i]), 1, seed),
                    due[i][seed]);
            }
        }
    }

    private static void pickedIsTheFirstBelow() {
        CHECK.due("first 8, below 9", pointOf(Make.names(1, 9), 1, 14), 8);
        CHECK.due("first 9, not below 9, then 1", pointOf(Make.names(1, 9), 1, 0), 1);
        CHECK.due("first 9, 9, then 5", pointOf(Make.names(1, 9), 1, 1), 5);
        CHECK.due("first 29, below 30", pointOf(Make.line(), 1, 3), 29);
        CHECK.due("first 30, not below 30, then 14", pointOf(Make.line(), 1, 36), 14);
        CHECK.due("the seventh of 3", pointOf(Make.names(1, 3), 1, 2467), 2);
        CHECK.due("the eleventh of 5", pointOf(Make.names(1, 5), 1, 5809), 0);
        CHECK.due("the fourteenth of 17", pointOf(Make.names(1, 17), 1, 7033), 4);
    }

    private static void pickedBeyondAnInt() {
        int[] seeds = {0, 1, -1, LEAST, GREATEST};
        long[] below31Bits = {1_231_361_927, 1_263_566_005, 460_282_497, 1_586_057_909, 424_814_950};
        long[] of33Bits = {4_925_447_708L, 5_054_264_022L, 1_841_129_991L, 6_344_231_636L, 1_699_259_802L};
        long[] ofTheMost = {630_457_306_684L, 646_945_794_834L, 235_664_638_972L, 52_728_206_013L, 217_505_254_669L};
        for (int i = 0; i < seeds.length; i++) {
            Counted x = Make.names(7, 16);
            x.name(8, -1, 0);
            CHECK.due("below 2^31 with " + seeds[i], pointOf(x, 1, seeds[i]), below31Bits[i]);
            Counted y = Make.names(7, 16);
            y.name(30, -1, 0);
            CHECK.due("below 30 times 2^28 with " + seeds[i], pointOf(y, 1, seeds[i]), of33Bits[i]);
            CHECK.due("below 30^8 with " + seeds[i], pointOf(Make.names(8, 30), 1, seeds[i]), ofTheMost[i]);
        }
    }

    private static void nameByName() {
        int[] seeds = {0, -1, GREATEST, LEAST, 42};
        int[][] of16 = {{9, 13, 0, 13, 12, 13, 13, 1}, {13, 4, 3, 15, 2, 0, 12, 1}, {2, 3, 8, 10, 14, 5, 10, 6},
            {3, 11, 9, 0, 0, 6, 2, 8}, {1, 13, 1, 2, 11, 13, 5, 7}};
        int[][] of17 = {{3, 2, 1, 8, 3, 9, 16, 2}, {1, 8, 6, 3, 5, 1, 13, 3}, {4, 6, 16, 2, 5, 10, 5, 12},
            {6, 5, 1, 1, 0, 12, 5, 16}, {2, 6, 3, 5, 4, 14, 10, 14}};
        for (int i = 0; i < seeds.length; i++) {
            Counted x = Make.names(8, 16);
            Counted y = Make.names(8, 17);
            long p = pointOf(x, 2, seeds[i]);
            long q = pointOf(y, 2, seeds[i]);
            for (int name = 0; name < 8; name++) {
                CHECK.due("seed " + seeds[i] + ", NAME " + name + " of 16", x.value(p, name), of16[i][name]);
                CHECK.due("seed " + seeds[i] + ", NAME " + name + " of 17", y.value(q, name), of17[i][name]);
            }
        }
    }

    private static void nameByNamePassesOverOnesNotThere() {
        int[][] due = {{1, 2, 0}, {0, NONE, 7}, {1, 13, 1}, {0, NONE, 1}, {0, NONE, 7}, {1, 9, 7}};
        for (int seed = 0; seed < due.length; seed++) {
            Counted x = new Counted();
            x.name(2, -1, 0);
            x.name(17, 0, 0b10);
            x.name(9, -1, 0);
            long p = pointOf(x, 2, seed);
            for (int name = 0; name < 3; name++) {
                CHECK.due("seed " + seed + ", NAME " + name, x.value(p, name), due[seed][name]);
            }
        }
    }

    private static void aNewTrial() {
        Counted x = Scene.BUSY.play();
        CHECK.due("the next number", x.trial(0, 9), 8);
        for (int what = 0; what < 5; what++) {
            CHECK.due("OPEN, without SCORE, REPORTS, RESULT and not IN: " + what, x.told(8, what), 0);
        }
        CHECK.due("no REPORT", x.reported(8, 0), -2_000_000);
        CHECK.due("BEST stays", x.best(), 0);
        CHECK.due("THE BRACKET stays", x.round(0), 3);
    }

    private static void fullWith60Trials() {
        Counted x = Make.line();
        for (int i = 0; i < 60; i++) {
            CHECK.due("TRIAL " + i, x.trial(i % 3, i), i);
        }
        CHECK.due("the 61st", x.trial(0, 0), FULL);
        for (int how = 0; how <= 2; how++) {
            int asked = how;
            refused(Scene.FULL, "the 61st, how " + how, y -> y.trial(asked, 7), FULL);
        }
        refused(Scene.FULL, "the 61st with a seed below 0", y -> y.trial(1, -7), FULL);
        CHECK.due("closed TRIALS give no room", fullOfFailed().trial(0, 0), FULL);
    }

    private static Counted fullOfFailed() {
        Counted x = Make.trials(60);
        for (int t = 0; t < 60; t++) {
            x.score(t, 0, false);
        }
        return x;
    }

    private static void theFirstOfSeveral() {
        refused(Scene.FULL, "BAD how ahead of FULL", x -> x.trial(3, 0), BAD);
        refused(Scene.FULL, "BAD how ahead of FULL", x -> x.trial(-1, 0), BAD);
        refused(Scene.FULL, "BAD number ahead of FULL", x -> x.trial(0, -1), BAD);
    }
}
