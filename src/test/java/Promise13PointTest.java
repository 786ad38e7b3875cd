/** Promise 13: point. */
public final class Promise13PointTest {
    private static final int BAD = -1;
    private static final Check CHECK = new Check("Promise 13, point");

    public static void main(String[] args) {
        trialFrom0ToTheLast();
        inAnyState();
        firstAndLastPoint();
        CHECK.end();
    }

    private static void trialFrom0ToTheLast() {
        Unchanged.by(CHECK, Scene.BUSY, "TRIAL 0", x -> x.point(0), 0);
        CHECK.due("the last TRIAL", Make.trials(4).point(3), 3);
        CHECK.due("TRIAL 59", Scene.FULL.play().point(59), 59);
        for (int t : new int[] {-1, 8, 59, 60, Integer.MIN_VALUE, Integer.MAX_VALUE}) {
            Unchanged.by(CHECK, Scene.BUSY, "TRIAL " + t, x -> x.point(t), BAD);
        }
        Unchanged.by(CHECK, Scene.NEW, "no TRIALS", x -> x.point(0), BAD);
        Unchanged.by(CHECK, Scene.FULL, "TRIAL 60", x -> x.point(60), BAD);
    }

    private static void inAnyState() {
        Counted x = Make.trials(4);
        x.score(1, 5, true);
        x.score(2, 5, false);
        x.report(0, 5, 0);
        x.report(3, 4, 1);
        for (int t = 0; t < 4; t++) {
            CHECK.due("TRIAL " + t, x.point(t), t);
        }
    }

    private static void firstAndLastPoint() {
        Counted x = Make.names(7, 16);
        x.trial(0, 0);
        x.trial(0, (1 << 28) - 1);
        CHECK.due("the first", x.point(0), 0);
        CHECK.due("the last", x.point(1), (1 << 28) - 1);
        Counted y = Make.names(8, 30);
        y.trial(1, 1);
        CHECK.due("one beyond an int", y.point(0), 646_945_794_834L);
    }
}
