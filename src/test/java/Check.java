/** Counts answers that are not as due and ends a test with exit code 1 if there was one. */
final class Check {
    // One broken promise can make thousands of answers wrong; the first ones tell enough.
    private static final int MOST_PRINTED = 50;
    // A test takes a second or two; one that goes on far longer has met a call that does not end.
    private static final long MOST_MILLISECONDS = 300_000;

    private final String title;
    private int asked = 0;
    private int wrong = 0;

    Check(String title) {
        this.title = title;
        Thread watch = new Thread(this::endLate);
        watch.setDaemon(true);
        watch.start();
    }

    private void endLate() {
        try {
            Thread.sleep(MOST_MILLISECONDS);
        } catch (InterruptedException e) {
            return;
        }
        System.out.println(title + ": a call does not end");
        Runtime.getRuntime().halt(1);
    }

    void due(String call, long got, long want) {
        asked++;
        if (got != want) {
            miss(call + " answered " + got + ", due is " + want);
        }
    }

    void holds(String what, boolean is) {
        asked++;
        if (!is) {
            miss("does not hold: " + what);
        }
    }

    private void miss(String text) {
        wrong++;
        if (wrong <= MOST_PRINTED) {
            System.out.println(title + ": " + text);
        }
    }

    int wrong() {
        return wrong;
    }

    void end() {
        System.out.println(title + ": " + asked + " asked, " + wrong + " wrong");
        if (wrong > 0) {
            System.exit(1);
        }
    }
}
