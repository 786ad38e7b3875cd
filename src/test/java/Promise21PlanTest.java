/** Promise 21: plan. */
public final class Promise21PlanTest {
    private static final int BAD = -1;
    private static final int LEAST = Integer.MIN_VALUE, GREATEST = Integer.MAX_VALUE;
    private static final Check CHECK = new Check("Promise 21, plan");

    public static void main(String[] args) {
        budgetFrom1ToAMillion();
        factorFrom2To5();
        sFromMinus1ToTheLast();
        what0Or1();
        sMinus1TellsTheLast();
        theLastAtEachPower();
        leastWholeNumberNotBelow();
        budgetCut();
        oneByOne();
        theGreatest();
        whateverTheStateIs();
        CHECK.end();
    }

    private static int plan(int budget, int factor, int s, int what) {
        return new Counted().plan(budget, factor, s, what);
    }

    private static void refused(String text, Scene.Call call) {
        Unchanged.by(CHECK, Scene.NEW, text, call, BAD);
        Unchanged.by(CHECK, Scene.BUSY, text, call, BAD);
    }

    private static void budgetFrom1ToAMillion() {
        CHECK.due("R 1", plan(1, 2, 0, 1), 1);
        CHECK.due("R 10^6", plan(1_000_000, 2, 0, 1), 1_000_000);
        for (int r : new int[] {0, 1_000_001, -1, LEAST, GREATEST}) {
            refused("R " + r, x -> x.plan(r, 2, 0, 0));
            CHECK.due("R " + r + ", S", plan(r, 2, -1, 0), BAD);
            CHECK.due("R " + r + ", BUDGET", plan(r, 2, 0, 1), BAD);
        }
    }

    private static void factorFrom2To5() {
        int[] last = {3, 2, 1, 1};
        for (int f = 2; f <= 5; f++) {
            CHECK.due("f " + f, plan(9, f, -1, 0), last[f - 2]);
        }
        for (int f : new int[] {1, 6, 0, -1, -2, LEAST, GREATEST}) {
            refused("f " + f, x -> x.plan(9, f, 0, 0));
            CHECK.due("f " + f + ", S", plan(9, f, -1, 0), BAD);
            CHECK.due("f " + f + ", BUDGET", plan(9, f, 0, 1), BAD);
        }
    }

    private static void sFromMinus1ToTheLast() {
        CHECK.due("s 0", plan(81, 3, 0, 1), 81);
        CHECK.due("s S", plan(81, 3, 4, 1), 1);
        for (int s : new int[] {-2, 5, LEAST, GREATEST}) {
            refused("s " + s + ", TRIALS", x -> x.plan(81, 3, s, 0));
            refused("s " + s + ", BUDGET", x -> x.plan(81, 3, s, 1));
        }
        CHECK.due("s 1 where S is 0", plan(1, 2, 1, 0), BAD);
        CHECK.due("s 20 where S is 19", plan(1_000_000, 2, 20, 0), BAD);
    }

    private static void what0Or1() {
        CHECK.due("what 0", plan(81, 3, 1, 0), 8);
        CHECK.due("what 1", plan(81, 3, 1, 1), 27);
        for (int what : new int[] {-1, 2, LEAST, GREATEST}) {
            refused("what " + what, x -> x.plan(81, 3, 1, what));
            refused("what " + what + ", s -1", x -> x.plan(81, 3, -1, what));
        }
    }

    private static void sMinus1TellsTheLast() {
        CHECK.due("S", plan(81, 3, -1, 0), 4);
        refused("S is for what 0 alone", x -> x.plan(81, 3, -1, 1));
    }

    private static void theLastAtEachPower() {
        for (int f = 2; f <= 5; f++) {
            int s = 0;
            for (int power = 1; power <= 1_000_000; power *= f) {
                CHECK.due("R = " + f + "^" + s, plan(power, f, -1, 0), s);
                CHECK.due("and its BUDGET", plan(power, f, s, 1), 1);
                if (power > 1) {
                    CHECK.due("R = " + f + "^" + s + " - 1", plan(power - 1, f, -1, 0), s - 1);
                    CHECK.due("where s " + s + " is none", plan(power - 1, f, s, 1), BAD);
                }
                s++;
            }
            CHECK.due("R = 10^6 by " + f, plan(1_000_000, f, -1, 0), s - 1);
        }
    }

    private static void leastWholeNumberNotBelow() {
        CHECK.due("5 by 1", plan(81, 3, 0, 0), 5);
        CHECK.due("15 by 2 is not whole", plan(81, 3, 1, 0), 8);
        CHECK.due("45 by 3 is whole", plan(81, 3, 2, 0), 15);
        CHECK.due("135 by 4", plan(81, 3, 3, 0), 34);
        CHECK.due("405 by 5", plan(81, 3, 4, 0), 81);
        for (int f = 2; f <= 5; f++) {
            for (int r : new int[] {1, 2, 3, 26, 27, 28, 1000, 999_999, 1_000_000}) {
                int last = plan(r, f, -1, 0);
                long power = 1;
                for (int s = 0; s <= last; s++) {
                    long n = plan(r, f, s, 0);
                    long above = (last + 1) * power;
                    String text = r + " " + f + " " + s;
                    CHECK.holds(text + ": not below", n * (s + 1) >= above);
                    CHECK.holds(text + ": one less is below", (n - 1) * (s + 1) < above);
                    power *= f;
                }
            }
        }
    }

    private static void budgetCut() {
        CHECK.due("80 by 27", plan(80, 3, 3, 1), 2);
        CHECK.due("81 by 27", plan(81, 3, 3, 1), 3);
        CHECK.due("10^6 by 2^19", plan(1_000_000, 2, 19, 1), 1);
        CHECK.due("10^6 by 5^8", plan(1_000_000, 5, 8, 1), 2);
        CHECK.due("999999 by 2", plan(999_999, 2, 1, 1), 499_999);
    }

    private static void oneByOne() {
        for (int f = 2; f <= 5; f++) {
            CHECK.due("S of 1", plan(1, f, -1, 0), 0);
            CHECK.due("TRIALS of 1", plan(1, f, 0, 0), 1);
            CHECK.due("BUDGET of 1", plan(1, f, 0, 1), 1);
        }
    }

    private static void theGreatest() {
        CHECK.due("20 times 2^19 by 20", plan(1_000_000, 2, 19, 0), 524_288);
        CHECK.due("20 times 2^18 by 19", plan(1_000_000, 2, 18, 0), 275_942);
        CHECK.due("13 times 3^12 by 13", plan(1_000_000, 3, 12, 0), 531_441);
        CHECK.due("10 times 4^9 by 10", plan(1_000_000, 4, 9, 0), 262_144);
        CHECK.due("9 times 5^8 by 9", plan(1_000_000, 5, 8, 0), 390_625);
    }

    private static void whateverTheStateIs() {
        Unchanged.by(CHECK, Scene.BUSY, "with a BRACKET", x -> x.plan(81, 3, 2, 0), 15);
        Unchanged.by(CHECK, Scene.FULL, "with a BRACKET", x -> x.plan(81, 3, -1, 0), 4);
    }
}
