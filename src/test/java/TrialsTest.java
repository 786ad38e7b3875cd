/** Promises 7 to 15: trials. */
public final class TrialsTest {
    private static final int BAD = TrialSearch.BAD, NONE = TrialSearch.NONE, NOT = TrialSearch.NOT;
    private static final int FULL = TrialSearch.FULL;
    private static final long FAR = 1_000_000_000_000_000_000L;
    private static final Check CHECK = new Check("TrialsTest");

    public static void main(String[] args) {
        grid();
        draw();
        drawInTheGreatestSpace();
        nameByName();
        trialRefused();
        guessWithoutScores();
        guessByForecast();
        guessTakesTheFirstOfLikeOnes();
        guessRefused();
        forecastOfTheNearest();
        forecastInLowestTerms();
        forecastRefused();
        scores();
        scoreRefused();
        reports();
        pruning();
        reportRefused();
        told();
        points();
        reported();
        best();
        fullHouse();
        CHECK.end();
    }

    /** One NAME of 30 VALUES: POINT p has VALUE p, and VALUES are as far apart as POINTS. */
    private static TrialSearch line() {
        TrialSearch x = new TrialSearch();
        x.name(30, -1, 0);
        return x;
    }

    private static TrialSearch withTrials(int count) {
        TrialSearch x = line();
        for (int i = 0; i < count; i++) {
            x.trial(0, i);
        }
        return x;
    }

    private static void grid() {
        TrialSearch x = new TrialSearch();
        x.name(7, -1, 0);
        CHECK.due("7: first", x.trial(0, 0), 0);
        CHECK.due("7: second", x.trial(0, 6), 1);
        CHECK.due("7: modulo", x.trial(0, 7), 2);
        CHECK.due("7: greatest int", x.trial(0, Integer.MAX_VALUE), 3);
        long[] points = {0, 6, 0, Integer.MAX_VALUE % 7};
        for (int t = 0; t < points.length; t++) {
            CHECK.due("7: GRID " + t, x.point(t), points[t]);
        }
        TrialSearch y = new TrialSearch();
        y.trial(0, 99);
        CHECK.due("7: the empty space has POINT 0 alone", y.point(0), 0);
    }

    private static void draw() {
        TrialSearch x = new TrialSearch();
        x.name(9, -1, 0);
        x.name(2, 0, 0b11);
        int[] seeds = {0, 1, -1, 77, Integer.MIN_VALUE, Integer.MAX_VALUE, 123456789};
        for (int i = 0; i < seeds.length; i++) {
            CHECK.due("7: number of a DRAWN one", x.trial(1, seeds[i]), i);
            CHECK.due("7: DRAW " + seeds[i], x.point(i), Model.picked(11, seeds[i]));
        }
        // In a space of just 2^b POINTS the first try is always taken.
        TrialSearch y = new TrialSearch();
        y.name(16, -1, 0);
        y.trial(1, 5);
        CHECK.due("7: the highest four bits", y.point(0), Model.hash(5, 1) >>> 28);
        TrialSearch z = new TrialSearch();
        z.trial(1, 5);
        CHECK.due("7: no bits", z.point(0), 0);
    }

    private static void drawInTheGreatestSpace() {
        TrialSearch x = new TrialSearch();
        for (int i = 0; i < 8; i++) {
            x.name(30, -1, 0);
        }
        for (int t = 0; t < 40; t++) {
            x.trial(1, t * 7919 - 5);
            CHECK.due("7: both halves, DRAW " + t, x.point(t), Model.picked(656_100_000_000L, t * 7919 - 5));
        }
    }

    private static void nameByName() {
        for (int seed = -20; seed < 20; seed++) {
            TrialSearch x = new TrialSearch();
            x.name(3, -1, 0);
            x.name(5, 0, 0b011);
            x.name(7, -1, 0);
            x.trial(2, seed);
            int first = (int) Model.picked(3, Model.hash(seed, 0));
            int second = (int) Model.picked(5, Model.hash(seed, 1));
            int third = (int) Model.picked(7, Model.hash(seed, 2));
            CHECK.due("7: NAME 0", x.value(x.point(0), 0), first);
            CHECK.due("7: NAME 1", x.value(x.point(0), 1), first == 2 ? NONE : second);
            CHECK.due("7: NAME 2", x.value(x.point(0), 2), third);
        }
    }

    private static void trialRefused() {
        TrialSearch x = line();
        CHECK.due("7: how -1", x.trial(-1, 0), BAD);
        CHECK.due("7: how 3", x.trial(3, 0), BAD);
        CHECK.due("7: GRID below 0", x.trial(0, -1), BAD);
        CHECK.due("7: GRID least int", x.trial(0, Integer.MIN_VALUE), BAD);
        CHECK.due("7: refused ones make none", x.trial(2, -1), 0);
        for (int i = 1; i < 60; i++) {
            CHECK.due("7: up to 60", x.trial(i % 3, i), i);
        }
        CHECK.due("7: FULL", x.trial(0, 0), FULL);
        CHECK.due("7: FULL", x.trial(2, -5), FULL);
        CHECK.due("7: BAD ahead of FULL", x.trial(3, 0), BAD);
        CHECK.due("7: BAD ahead of FULL", x.trial(0, -1), BAD);
        CHECK.due("7: there is no 60", x.point(60), BAD);
    }

    private static void guessWithoutScores() {
        TrialSearch x = withTrials(2);
        x.score(0, 5, false);
        CHECK.due("8: its number", x.guess(42, 40, 5), 2);
        CHECK.due("8: CANDIDATE 0", x.point(2), Model.picked(30, Model.hash(42, 0)));
        CHECK.due("8: it is OPEN", x.told(2, 0), 0);
    }

    private static void guessByForecast() {
        for (int seed = 0; seed < 50; seed++) {
            TrialSearch x = withTrials(30);
            for (int t = 0; t < 30; t++) {
                x.score(t, t * 11 % 30, true);
            }
            CHECK.due("8: its number", x.guess(seed, 12, 1), 30);
            long best = Model.picked(30, Model.hash(seed, 0));
            for (int i = 1; i < 12; i++) {
                long next = Model.picked(30, Model.hash(seed, i));
                best = next * 11 % 30 > best * 11 % 30 ? next : best;
            }
            CHECK.due("8: the greatest FORECAST with seed " + seed, x.point(30), best);
        }
    }

    private static void guessTakesTheFirstOfLikeOnes() {
        TrialSearch x = withTrials(3);
        x.score(1, -4, true);
        x.guess(9, 40, 3);
        CHECK.due("8: the first of like ones", x.point(3), Model.picked(30, Model.hash(9, 0)));
        TrialSearch y = withTrials(2);
        y.score(0, -4, true);
        y.guess(9, 1, 1);
        CHECK.due("8: one CANDIDATE", y.point(2), Model.picked(30, Model.hash(9, 0)));
    }

    private static void guessRefused() {
        TrialSearch x = line();
        CHECK.due("8: 0 CANDIDATES", x.guess(1, 0, 1), BAD);
        CHECK.due("8: 41 CANDIDATES", x.guess(1, 41, 1), BAD);
        CHECK.due("8: k 0", x.guess(1, 1, 0), BAD);
        CHECK.due("8: k 6", x.guess(1, 1, 6), BAD);
        CHECK.due("8: edges", x.guess(Integer.MIN_VALUE, 40, 5), 0);
        for (int i = 1; i < 60; i++) {
            CHECK.due("8: up to 60", x.guess(i, 1 + i % 40, 1 + i % 5), i);
        }
        CHECK.due("8: FULL", x.guess(1, 40, 5), FULL);
        CHECK.due("8: BAD ahead of FULL", x.guess(1, 41, 5), BAD);
    }

    private static void forecastOfTheNearest() {
        TrialSearch x = line();
        int[] points = {10, 20, 10, 12, 29};
        int[] scores = {100, 7, 31, 1000, -5};
        for (int t = 0; t < points.length; t++) {
            x.trial(0, points[t]);
            x.score(t, scores[t], true);
        }
        x.trial(0, 11);
        x.trial(0, 11);
        x.score(6, 9, false);
        CHECK.due("9: the nearest, the lesser number", x.forecast(10, 1, 0), 100);
        CHECK.due("9: both as near, the lesser number", x.forecast(11, 1, 0), 100);
        CHECK.due("9: 20 and 12 are as near, 1 is less than 3", x.forecast(16, 1, 0), 7);
        CHECK.due("9: 20 and 12", x.forecast(16, 2, 0), 1007);
        CHECK.due("9: 20 and 12, by", x.forecast(16, 2, 1), 2);
        CHECK.due("9: three", x.forecast(11, 3, 0), 377);
        CHECK.due("9: three, by", x.forecast(11, 3, 1), 1);
        CHECK.due("9: all five", x.forecast(0, 5, 0), 1133);
        CHECK.due("9: all five, by", x.forecast(0, 5, 1), 5);
    }

    private static void forecastInLowestTerms() {
        TrialSearch x = withTrials(4);
        x.score(0, -3, true);
        x.score(1, 3, true);
        CHECK.due("9: 0", x.forecast(0, 2, 0), 0);
        CHECK.due("9: by 1", x.forecast(0, 2, 1), 1);
        CHECK.due("9: fewer than k", x.forecast(0, 5, 1), 1);
        x.score(2, -9, true);
        CHECK.due("9: -9 by 3 above", x.forecast(0, 3, 0), -3);
        CHECK.due("9: -9 by 3 below", x.forecast(0, 3, 1), 1);
        x.score(3, -1, true);
        CHECK.due("9: -10 by 4 above", x.forecast(0, 4, 0), -5);
        CHECK.due("9: -10 by 4 below", x.forecast(0, 4, 1), 2);
        CHECK.due("9: k more than there are", x.forecast(0, 5, 0), -5);
    }

    private static void forecastRefused() {
        TrialSearch x = withTrials(2);
        CHECK.due("9: no SCORED TRIAL", x.forecast(0, 1, 0), NONE - FAR);
        CHECK.due("9: no SCORED TRIAL, below", x.forecast(0, 1, 1), NONE - FAR);
        CHECK.due("9: BAD ahead of NONE", x.forecast(30, 1, 0), BAD - FAR);
        x.score(0, 1_000_000, true);
        CHECK.due("9: last POINT", x.forecast(29, 5, 0), 1_000_000);
        CHECK.due("9: behind it", x.forecast(30, 5, 0), BAD - FAR);
        CHECK.due("9: POINT -1", x.forecast(-1, 5, 0), BAD - FAR);
        CHECK.due("9: k 0", x.forecast(0, 0, 0), BAD - FAR);
        CHECK.due("9: k 6", x.forecast(0, 6, 0), BAD - FAR);
        CHECK.due("9: side -1", x.forecast(0, 1, -1), BAD - FAR);
        CHECK.due("9: side 2", x.forecast(0, 1, 2), BAD - FAR);
    }

    private static void scores() {
        TrialSearch x = withTrials(5);
        CHECK.due("10: first SCORED", x.score(3, 1_000_000, true), 1);
        CHECK.due("10: second SCORED", x.score(1, -1_000_000, true), 2);
        CHECK.due("10: a FAILED one is not SCORED", x.score(0, 7, false), 2);
        CHECK.due("10: v is not looked at", x.score(2, Integer.MAX_VALUE, false), 2);
        CHECK.due("10: STATE 1", x.told(3, 0), 1);
        CHECK.due("10: SCORE", x.told(3, 1), 1_000_000);
        CHECK.due("10: SCORE", x.told(1, 1), -1_000_000);
        CHECK.due("10: STATE 2", x.told(0, 0), 2);
        CHECK.due("10: no SCORE", x.told(0, 1), 0);
    }

    private static void scoreRefused() {
        TrialSearch x = withTrials(3);
        CHECK.due("10: TRIAL -1", x.score(-1, 0, true), BAD);
        CHECK.due("10: TRIAL 3", x.score(3, 0, true), BAD);
        CHECK.due("10: TRIAL 3, failing", x.score(3, 0, false), BAD);
        CHECK.due("10: above", x.score(0, 1_000_001, true), BAD);
        CHECK.due("10: below", x.score(0, -1_000_001, true), BAD);
        CHECK.due("10: refused ones change nothing", x.told(0, 0), 0);
        x.score(0, 1, true);
        x.score(1, 1, false);
        CHECK.due("10: SCORED", x.score(0, 2, true), NOT);
        CHECK.due("10: SCORED", x.score(0, 2, false), NOT);
        CHECK.due("10: FAILED", x.score(1, 2, true), NOT);
        CHECK.due("10: BAD ahead of NOT", x.score(1, 1_000_001, true), BAD);
        CHECK.due("10: the SCORE stays", x.told(0, 1), 1);
        TrialSearch y = withTrials(2);
        y.report(0, 5, 0);
        y.report(1, 4, 1);
        CHECK.due("10: PRUNED", y.score(1, 2, true), NOT);
        CHECK.due("10: OPEN with a REPORT", y.score(0, 2, true), 1);
    }

    private static void reports() {
        TrialSearch x = withTrials(2);
        for (int step = 0; step < 20; step++) {
            CHECK.due("11: STEP " + step, x.report(0, step - 10, 0), step);
        }
        CHECK.due("11: FULL", x.report(0, 1, 0), FULL);
        CHECK.due("11: BAD ahead of FULL", x.report(0, 1_000_001, 0), BAD);
        CHECK.due("11: BAD ahead of FULL", x.report(0, 1, 61), BAD);
        CHECK.due("11: another's STEPS", x.report(1, -1_000_000, 0), 0);
        CHECK.due("11: m 0 never prunes", x.told(1, 0), 0);
        x.score(0, 1, true);
        CHECK.due("11: NOT ahead of FULL", x.report(0, 1, 0), NOT);
    }

    private static void pruning() {
        TrialSearch x = withTrials(12);
        int[] reports = {10, 40, 20, 30};
        for (int t = 0; t < 4; t++) {
            CHECK.due("11: for STEP 0", x.report(t, reports[t], 0), 0);
        }
        CHECK.due("11: too few others", x.report(4, -100, 5), 0);
        // others: -100 10 20 30 40
        CHECK.due("11: like the middle one", x.report(5, 20, 5), 0);
        // others: -100 10 20 20 30 40, the lower middle one is 20
        CHECK.due("11: below the lower of both", x.report(6, 19, 6), -10);
        CHECK.due("11: STATE 3", x.told(6, 0), 3);
        CHECK.due("11: it keeps its REPORT", x.reported(6, 0), 19);
        CHECK.due("11: and counts it", x.told(6, 2), 1);
        CHECK.due("11: no more for a PRUNED one", x.report(6, 99, 0), NOT);
        // others: -100 10 19 20 20 30 40: those of any STATE count
        x.score(1, 0, true);
        x.score(2, 0, false);
        CHECK.due("11: m 60 is never reached", x.report(7, -1_000_000, 60), 0);
        // others: -1000000 -100 10 19 20 20 30 40, the lower middle one is 19
        CHECK.due("11: like the lower of both", x.report(8, 19, 8), 0);
        CHECK.due("11: STEP 1 has none of others", x.report(8, -1_000_000, 1), 1);
        CHECK.due("11: its own REPORTS do not count", x.report(8, -1_000_000, 1), 2);
        CHECK.due("11: one other", x.report(0, -1_000_000, 1), 1);
        CHECK.due("11: below one other", x.report(3, -1_000_000, 1), 1);
        CHECK.due("11: STEP 2 below", x.report(3, -1_000_000, 1), 2);
        x.report(9, 1_000_000, 0);
        x.report(9, 1_000_000, 1);
        x.report(9, 7, 1);
        CHECK.due("11: at STEP 2", x.report(0, 6, 3), 2);
        CHECK.due("11: at STEP 3", x.report(9, 6, 1), 3);
        CHECK.due("11: pruned at STEP 3", x.report(0, 5, 1), -13);
    }

    private static void reportRefused() {
        TrialSearch x = withTrials(2);
        CHECK.due("11: TRIAL -1", x.report(-1, 0, 0), BAD);
        CHECK.due("11: TRIAL 2", x.report(2, 0, 0), BAD);
        CHECK.due("11: above", x.report(0, 1_000_001, 0), BAD);
        CHECK.due("11: below", x.report(0, -1_000_001, 0), BAD);
        CHECK.due("11: m -1", x.report(0, 0, -1), BAD);
        CHECK.due("11: m 61", x.report(0, 0, 61), BAD);
        CHECK.due("11: refused ones change nothing", x.told(0, 2), 0);
        x.score(0, 0, false);
        CHECK.due("11: FAILED", x.report(0, 0, 0), NOT);
        CHECK.due("11: BAD ahead of NOT", x.report(0, 0, 61), BAD);
        CHECK.due("11: greatest", x.report(1, 1_000_000, 60), 0);
        CHECK.due("11: least", x.report(1, -1_000_000, 1), 1);
    }

    private static void told() {
        TrialSearch x = withTrials(3);
        for (int what = 0; what <= 4; what++) {
            CHECK.due("12: new, " + what, x.told(0, what), 0);
        }
        x.bracket(1, 2, 1, 2);
        CHECK.due("12: not IN", x.told(0, 4), 0);
        CHECK.due("12: IN", x.told(1, 4), 1);
        CHECK.due("12: no RESULT", x.told(1, 3), 0);
        x.result(1, -77, true);
        x.result(2, 55, false);
        CHECK.due("12: RESULT", x.told(1, 3), -77);
        CHECK.due("12: it FAILED", x.told(2, 3), 0);
        CHECK.due("12: and is IN", x.told(2, 4), 1);
        CHECK.due("12: a RESULT is no SCORE", x.told(1, 1), 0);
        x.halve();
        CHECK.due("12: no RESULT in the next ROUND", x.told(1, 3), 0);
        CHECK.due("12: still IN", x.told(1, 4), 1);
        CHECK.due("12: no more IN", x.told(2, 4), 0);
        x.report(0, 1, 0);
        x.report(0, 1, 0);
        CHECK.due("12: REPORTS", x.told(0, 2), 2);
        CHECK.due("12: what -1", x.told(0, -1), BAD);
        CHECK.due("12: what 5", x.told(0, 5), BAD);
        CHECK.due("12: TRIAL -1", x.told(-1, 0), BAD);
        CHECK.due("12: TRIAL 3", x.told(3, 0), BAD);
    }

    private static void points() {
        TrialSearch x = withTrials(4);
        CHECK.due("13: the last", x.point(3), 3);
        CHECK.due("13: TRIAL 4", x.point(4), BAD);
        CHECK.due("13: TRIAL -1", x.point(-1), BAD);
        CHECK.due("13: least int", x.point(Integer.MIN_VALUE), BAD);
        x.score(3, 1, true);
        CHECK.due("13: in any STATE", x.point(3), 3);
    }

    private static void reported() {
        TrialSearch x = withTrials(2);
        CHECK.due("14: none yet", x.reported(0, 0), -2_000_000);
        x.report(0, 5, 0);
        x.report(0, -1_000_000, 0);
        CHECK.due("14: STEP 0", x.reported(0, 0), 5);
        CHECK.due("14: STEP 1", x.reported(0, 1), -1_000_000);
        CHECK.due("14: STEP 2", x.reported(0, 2), -2_000_000);
        CHECK.due("14: STEP -1", x.reported(0, -1), -2_000_000);
        CHECK.due("14: STEP 20", x.reported(0, 20), -2_000_000);
        CHECK.due("14: greatest int", x.reported(0, Integer.MAX_VALUE), -2_000_000);
        CHECK.due("14: of another", x.reported(1, 0), -2_000_000);
        CHECK.due("14: TRIAL 2", x.reported(2, 0), -2_000_000);
        CHECK.due("14: TRIAL -1", x.reported(-1, 0), -2_000_000);
    }

    private static void best() {
        TrialSearch x = new TrialSearch();
        CHECK.due("15: no TRIALS", x.best(), NONE);
        x = withTrials(6);
        CHECK.due("15: none SCORED", x.best(), NONE);
        x.score(0, 9, false);
        CHECK.due("15: a FAILED one", x.best(), NONE);
        x.score(4, -1_000_000, true);
        CHECK.due("15: the only one", x.best(), 4);
        x.score(5, -3, true);
        CHECK.due("15: a greater one", x.best(), 5);
        x.score(2, -3, true);
        CHECK.due("15: the first of like ones", x.best(), 2);
        x.report(1, 1_000_000, 0);
        CHECK.due("15: an OPEN one's 0 is no SCORE", x.best(), 2);
    }

    /** All 60 TRIALS with all that they can have. */
    private static void fullHouse() {
        TrialSearch x = withTrials(60);
        for (int t = 0; t < 60; t++) {
            CHECK.due("11: of TRIAL " + t, x.report(t, 60 - t, 0), 0);
        }
        for (int step = 1; step < 20; step++) {
            x.report(59, step, 0);
        }
        CHECK.due("14: the last TRIAL's last STEP", x.reported(59, 19), 19);
        CHECK.due("11: below one other", x.report(0, 0, 1), -11);
        CHECK.due("11: fewer than 59 others", x.report(1, 0, 59), 1);
        for (int t = 1; t < 60; t++) {
            CHECK.due("10: of TRIAL " + t, x.score(t, t, true), t);
        }
        CHECK.due("15: the last", x.best(), 59);
        CHECK.due("12: the last", x.told(59, 1), 59);
        // POINTS are numbers modulo 30: TRIALS 29 and 59 have the last one, 28 and 58 the one before
        CHECK.due("9: above", x.forecast(29, 3, 0), 29 + 59 + 28);
        CHECK.due("9: below", x.forecast(29, 3, 1), 3);
        TrialSearch y = withTrials(60);
        for (int t = 0; t < 59; t++) {
            y.report(t, t, 0);
        }
        CHECK.due("11: the middle one of 59", y.report(59, 28, 59), -10);
        TrialSearch z = withTrials(60);
        for (int t = 0; t < 59; t++) {
            z.report(t, t, 0);
        }
        CHECK.due("11: like the middle one of 59", z.report(59, 29, 59), 0);
        TrialSearch w = withTrials(60);
        for (int t = 0; t < 59; t++) {
            w.report(t, t, 0);
        }
        CHECK.due("11: 60 others can't be", w.report(59, 0, 60), 0);
    }
}
