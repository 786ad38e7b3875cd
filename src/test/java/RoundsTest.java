/** Promises 16 to 21: rounds. */
public final class RoundsTest {
    private static final int BAD = TrialSearch.BAD, NONE = TrialSearch.NONE, NOT = TrialSearch.NOT;
    private static final Check CHECK = new Check("RoundsTest");

    public static void main(String[] args) {
        bracket();
        bracketRefused();
        bracketInPlaceOfAnother();
        results();
        resultRefused();
        halving();
        halvingLikeOnes();
        halvingFailedOnes();
        halvingTheFullHouse();
        halveRefused();
        bracketOfOne();
        resultWhenOver();
        rounds();
        costs();
        plans();
        planRefused();
        CHECK.end();
    }

    private static TrialSearch withTrials(int count) {
        TrialSearch x = new TrialSearch();
        x.name(30, -1, 0);
        for (int i = 0; i < count; i++) {
            x.trial(0, i);
        }
        return x;
    }

    private static String in(TrialSearch x, int count) {
        StringBuilder text = new StringBuilder();
        for (int t = 0; t < count; t++) {
            text.append(x.told(t, 4));
        }
        return text.toString();
    }

    private static void bracket() {
        TrialSearch x = withTrials(60);
        CHECK.due("16: all 60", x.bracket(0, 60, 1_000_000, 5), 1);
        CHECK.due("16: all are IN", x.round(0), 60);
        CHECK.due("16: the last one", x.bracket(59, 1, 1, 2), 1);
        CHECK.due("16: one is IN", x.round(0), 1);
        TrialSearch y = withTrials(5);
        y.score(2, 1, false);
        CHECK.due("16: TRIALS of any STATE", y.bracket(1, 3, 4, 3), 1);
        CHECK.holds("16: from one on, n of them", in(y, 5).equals("01110"));
        y.trial(0, 0);
        CHECK.due("16: one made later is not IN", y.told(5, 4), 0);
    }

    private static void bracketRefused() {
        TrialSearch x = new TrialSearch();
        CHECK.due("16: no TRIALS", x.bracket(0, 1, 1, 2), BAD);
        x = withTrials(5);
        CHECK.due("16: from -1", x.bracket(-1, 1, 1, 2), BAD);
        CHECK.due("16: from 5", x.bracket(5, 1, 1, 2), BAD);
        CHECK.due("16: n 0", x.bracket(0, 0, 1, 2), BAD);
        CHECK.due("16: n -1", x.bracket(3, -1, 1, 2), BAD);
        CHECK.due("16: one TRIAL too many", x.bracket(2, 4, 1, 2), BAD);
        CHECK.due("16: n 61", x.bracket(0, 61, 1, 2), BAD);
        CHECK.due("16: from greatest int", x.bracket(Integer.MAX_VALUE, 1, 1, 2), BAD);
        CHECK.due("16: n greatest int", x.bracket(4, Integer.MAX_VALUE, 1, 2), BAD);
        CHECK.due("16: from and n greatest int", x.bracket(Integer.MAX_VALUE, Integer.MAX_VALUE, 1, 2), BAD);
        CHECK.due("16: from least int", x.bracket(Integer.MIN_VALUE, 60, 1, 2), BAD);
        CHECK.due("16: BUDGET 0", x.bracket(0, 1, 0, 2), BAD);
        CHECK.due("16: BUDGET too great", x.bracket(0, 1, 1_000_001, 2), BAD);
        CHECK.due("16: FACTOR 1", x.bracket(0, 1, 1, 1), BAD);
        CHECK.due("16: FACTOR 6", x.bracket(0, 1, 1, 6), BAD);
        CHECK.due("16: refused ones make none", x.round(0), NONE);
    }

    private static void bracketInPlaceOfAnother() {
        TrialSearch x = withTrials(6);
        x.bracket(0, 4, 3, 2);
        for (int t = 0; t < 4; t++) {
            x.result(t, t, true);
        }
        x.halve();
        x.result(3, 9, true);
        CHECK.due("16: refused", x.bracket(0, 7, 1, 2), BAD);
        CHECK.due("16: the old one is still there", x.round(1), 1);
        CHECK.due("16: with its RESULT", x.told(3, 3), 9);
        CHECK.due("16: in place of it", x.bracket(3, 3, 7, 3), 1);
        CHECK.holds("16: others are IN", in(x, 6).equals("000111"));
        CHECK.due("16: old RESULTS are gone", x.told(3, 3), 0);
        CHECK.due("16: no ROUNDS yet", x.round(1), 0);
        CHECK.due("16: its BUDGET", x.round(2), 7);
        CHECK.due("16: its COST", x.cost(), 0);
        CHECK.due("16: all have none yet", x.result(3, 1, true), 2);
    }

    private static void results() {
        TrialSearch x = withTrials(4);
        x.bracket(0, 4, 1, 2);
        CHECK.due("17: three have none", x.result(2, 1_000_000, true), 3);
        CHECK.due("17: two", x.result(0, -1_000_000, true), 2);
        CHECK.due("17: one that FAILS has had its turn", x.result(3, 5, false), 1);
        CHECK.due("17: v is not looked at", x.result(1, Integer.MIN_VALUE, false), 0);
        CHECK.due("17: a RESULT leaves the STATE", x.told(3, 0), 0);
    }

    private static void resultRefused() {
        TrialSearch x = withTrials(3);
        CHECK.due("17: no BRACKET", x.result(0, 1, true), NOT);
        CHECK.due("17: BAD ahead of NOT", x.result(0, 1_000_001, true), BAD);
        CHECK.due("17: TRIAL 3", x.result(3, 1, true), BAD);
        CHECK.due("17: TRIAL -1", x.result(-1, 1, false), BAD);
        x.bracket(0, 2, 1, 2);
        CHECK.due("17: not IN", x.result(2, 1, true), NOT);
        CHECK.due("17: above", x.result(0, 1_000_001, true), BAD);
        CHECK.due("17: below", x.result(0, -1_000_001, true), BAD);
        CHECK.due("17: refused ones cost nothing", x.cost(), 0);
        x.result(0, 1, true);
        CHECK.due("17: it has one", x.result(0, 2, true), NOT);
        CHECK.due("17: it has one", x.result(0, 2, false), NOT);
        CHECK.due("17: it stays", x.told(0, 3), 1);
        x.result(1, 1, false);
        CHECK.due("17: it FAILED", x.result(1, 2, true), NOT);
        x.halve();
        CHECK.due("17: no more IN", x.result(1, 2, true), NOT);
    }

    private static void halving() {
        TrialSearch x = withTrials(11);
        x.bracket(1, 10, 2, 3);
        int[] marks = {0, 5, -1, 8, 8, 3, 9, 0, -7, 2, 4};
        for (int t = 1; t <= 10; t++) {
            x.result(t, marks[t], true);
        }
        CHECK.due("18: 10 by 3, cut", x.halve(), 3);
        CHECK.holds("18: the greatest stay", in(x, 11).equals("00011010000"));
        x.result(3, 0, true);
        x.result(4, -1, true);
        x.result(6, -2, true);
        CHECK.due("18: 3 by 3", x.halve(), 1);
        CHECK.holds("18: by this ROUND's RESULTS", in(x, 11).equals("00010000000"));
        TrialSearch y = withTrials(4);
        y.bracket(0, 4, 2, 5);
        for (int t = 0; t < 4; t++) {
            y.result(t, -5 + t, true);
        }
        CHECK.due("18: 4 by 5 is 1 at least", y.halve(), 1);
        CHECK.holds("18: below 0 too", in(y, 4).equals("0001"));
    }

    private static void halvingLikeOnes() {
        TrialSearch x = withTrials(7);
        x.bracket(0, 7, 1, 2);
        int[] marks = {1, 2, 1, 2, 1, 2, 2};
        for (int t = 6; t >= 0; t--) {
            x.result(t, marks[t], true);
        }
        CHECK.due("18: 7 by 2, cut", x.halve(), 3);
        CHECK.holds("18: of like ones the lesser numbers", in(x, 7).equals("0101010"));
    }

    private static void halvingFailedOnes() {
        TrialSearch x = withTrials(6);
        x.bracket(0, 6, 1, 2);
        for (int t = 0; t < 6; t++) {
            x.result(t, -t - 1, t == 4 || t == 5);
        }
        CHECK.due("18: fewer, if fewer did not FAIL", x.halve(), 2);
        CHECK.holds("18: those that did not FAIL", in(x, 6).equals("000011"));
        x.result(4, 0, false);
        x.result(5, 0, false);
        CHECK.due("18: all FAILED", x.halve(), 0);
        CHECK.due("18: over with none IN", x.round(3), 1);
        CHECK.due("18: none IN", x.round(0), 0);
        CHECK.due("18: over", x.halve(), NOT);
    }

    private static void halvingTheFullHouse() {
        TrialSearch x = withTrials(60);
        x.bracket(0, 60, 1, 2);
        for (int t = 0; t < 60; t++) {
            CHECK.due("17: of TRIAL " + t, x.result(t, t, true), 59 - t);
        }
        CHECK.due("18: 60 by 2", x.halve(), 30);
        CHECK.holds("18: the last 30", in(x, 60).equals("0".repeat(30) + "1".repeat(30)));
        CHECK.due("17: the last one", x.result(59, 1, true), 29);
        CHECK.due("17: one that went", x.result(29, 1, true), NOT);
    }

    private static void halveRefused() {
        TrialSearch x = withTrials(3);
        CHECK.due("18: no BRACKET", x.halve(), NOT);
        x.bracket(0, 3, 1, 2);
        CHECK.due("18: none has a RESULT", x.halve(), NOT);
        x.result(0, 1, true);
        x.result(1, 1, false);
        CHECK.due("18: one has none", x.halve(), NOT);
        CHECK.due("18: refused ones change nothing", x.round(0), 3);
        CHECK.due("18: nor the ROUNDS", x.round(1), 0);
        x.result(2, 1, true);
        CHECK.due("18: all have", x.halve(), 1);
        x.result(0, 1, true);
        CHECK.due("18: it is over", x.halve(), NOT);
        x.bracket(0, 3, 1, 2);
        CHECK.due("18: a new one is not over", x.round(3), 0);
    }

    /** One is IN from the start; over it is only behind a HALVING. */
    private static void bracketOfOne() {
        TrialSearch x = withTrials(1);
        x.bracket(0, 1, 5, 4);
        CHECK.due("19: not over yet", x.round(3), 0);
        CHECK.due("18: it has no RESULT", x.halve(), NOT);
        CHECK.due("17: its RESULT", x.result(0, 3, true), 0);
        CHECK.due("18: one stays", x.halve(), 1);
        CHECK.due("19: over", x.round(3), 1);
        CHECK.due("19: BUDGET", x.round(2), 20);
    }

    /** The document refuses a RESULT without a BRACKET, to one not IN and to one that has one: not when it is over. */
    private static void resultWhenOver() {
        TrialSearch x = withTrials(2);
        x.bracket(0, 2, 5, 2);
        x.result(0, 3, true);
        x.result(1, 4, true);
        x.halve();
        CHECK.due("17: the one that is IN", x.result(1, 6, true), 0);
        CHECK.due("20: it costs", x.cost(), 20);
        CHECK.due("17: it has one", x.result(1, 6, true), NOT);
        CHECK.due("18: over all the same", x.halve(), NOT);
    }

    private static void rounds() {
        TrialSearch x = withTrials(60);
        for (int what = 0; what <= 3; what++) {
            CHECK.due("19: none", x.round(what), NONE);
        }
        CHECK.due("19: BAD ahead of NONE", x.round(4), BAD);
        x.bracket(0, 60, 1_000_000, 5);
        int[] in = {60, 12, 2, 1};
        int[] budgets = {1_000_000, 5_000_000, 25_000_000, 125_000_000};
        for (int halved = 0; halved < 4; halved++) {
            CHECK.due("19: IN", x.round(0), in[halved]);
            CHECK.due("19: HALVED", x.round(1), halved);
            CHECK.due("19: BUDGET", x.round(2), budgets[halved]);
            CHECK.due("19: over", x.round(3), halved == 3 ? 1 : 0);
            for (int t = 0; t < in[halved]; t++) {
                x.result(t, -t, true);
            }
            x.halve();
        }
        CHECK.due("19: what -1", x.round(-1), BAD);
        CHECK.due("19: what 4", x.round(4), BAD);
    }

    private static void costs() {
        TrialSearch x = withTrials(4);
        CHECK.due("20: without a BRACKET", x.cost(), 0);
        x.bracket(0, 4, 1_000_000, 2);
        CHECK.due("20: none yet", x.cost(), 0);
        x.result(0, 1, true);
        CHECK.due("20: a RESULT", x.cost(), 1_000_000);
        x.result(1, 1, false);
        CHECK.due("20: one that FAILS", x.cost(), 2_000_000);
        x.result(1, 1, true);
        CHECK.due("20: one refused", x.cost(), 2_000_000);
        x.result(2, 1, true);
        x.result(3, 1, true);
        x.halve();
        CHECK.due("20: halving is free", x.cost(), 4_000_000);
        x.result(0, 1, true);
        CHECK.due("20: the next BUDGET", x.cost(), 6_000_000);
        TrialSearch y = withTrials(60);
        y.bracket(0, 60, 1_000_000, 5);
        for (int n = 60; n > 1; n = Math.max(1, n / 5)) {
            for (int t = 0; t < n; t++) {
                y.result(t, -t, true);
            }
            y.halve();
        }
        CHECK.due("20: of all ROUNDS", y.cost(), 60_000_000L + 12 * 5_000_000L + 2 * 25_000_000L);
        y.result(0, 1, true);
        CHECK.due("20: one more", y.cost(), 170_000_000L + 125_000_000L);
    }

    private static void plans() {
        TrialSearch x = new TrialSearch();
        int[][] hyperband = {{5, 81}, {8, 27}, {15, 9}, {34, 3}, {81, 1}};
        CHECK.due("21: S", x.plan(81, 3, -1, 0), 4);
        for (int s = 0; s <= 4; s++) {
            CHECK.due("21: TRIALS " + s, x.plan(81, 3, s, 0), hyperband[s][0]);
            CHECK.due("21: BUDGET " + s, x.plan(81, 3, s, 1), hyperband[s][1]);
        }
        CHECK.due("21: S of 1", x.plan(1, 5, -1, 0), 0);
        CHECK.due("21: TRIALS of 1", x.plan(1, 5, 0, 0), 1);
        CHECK.due("21: BUDGET of 1", x.plan(1, 5, 0, 1), 1);
        CHECK.due("21: just below a power", x.plan(80, 3, -1, 0), 3);
        CHECK.due("21: cut", x.plan(80, 3, 3, 1), 2);
        CHECK.due("21: S of 10^6 by 2", x.plan(1_000_000, 2, -1, 0), 19);
        CHECK.due("21: TRIALS of 10^6 by 2", x.plan(1_000_000, 2, 18, 0), (20 * 262_144 + 18) / 19);
        CHECK.due("21: S of 10^6 by 5", x.plan(1_000_000, 5, -1, 0), 8);
        for (int r = 1; r < 2000; r += 7) {
            for (int f = 2; f <= 5; f++) {
                for (int s = -2; s <= 12; s++) {
                    CHECK.due("21: " + r + " " + f + " " + s, x.plan(r, f, s, 0), Model.plan(r, f, s, 0));
                    CHECK.due("21: " + r + " " + f + " " + s, x.plan(r, f, s, 1), Model.plan(r, f, s, 1));
                }
            }
        }
    }

    private static void planRefused() {
        TrialSearch x = new TrialSearch();
        CHECK.due("21: R 0", x.plan(0, 2, 0, 0), BAD);
        CHECK.due("21: R too great", x.plan(1_000_001, 2, 0, 0), BAD);
        CHECK.due("21: f 1", x.plan(9, 1, 0, 0), BAD);
        CHECK.due("21: f 0", x.plan(9, 0, 0, 0), BAD);
        CHECK.due("21: f 6", x.plan(9, 6, 0, 0), BAD);
        CHECK.due("21: s -2", x.plan(9, 3, -2, 0), BAD);
        CHECK.due("21: s S + 1", x.plan(9, 3, 3, 0), BAD);
        CHECK.due("21: s greatest int", x.plan(9, 3, Integer.MAX_VALUE, 1), BAD);
        CHECK.due("21: what -1", x.plan(9, 3, 0, -1), BAD);
        CHECK.due("21: what 2", x.plan(9, 3, 0, 2), BAD);
        CHECK.due("21: S is for what 0 alone", x.plan(9, 3, -1, 1), BAD);
    }
}
