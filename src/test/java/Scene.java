import java.util.ArrayList;
import java.util.List;

/** A run of calls that can be made again on any number of new objects. */
final class Scene {
    interface Call {
        long on(Counted x);
    }

    /** Nothing has been called. */
    static final Scene NEW = new Scene();

    /** Eight NAMES, five of them under conditions, and FOLDS, but no TRIALS. */
    static final Scene EIGHT_NAMES = new Scene().names(3, 4, 2, 5).plus(x -> x.name(2, 0, 0b010),
        x -> x.name(7, 0, 0b111), x -> x.name(1, -1, 0), x -> x.name(3, 2, 0b01)).busyFolds();

    /** Something of everything, and nothing at its end: TRIALS of each STATE, a ROUND half done, a fold TESTED. */
    static final Scene BUSY = new Scene().names(3, 4, 2, 5).busyTrials().busyBracket().busyFolds();

    /** BUSY without a BRACKET. */
    static final Scene NO_BRACKET = new Scene().names(3, 4, 2, 5).busyTrials().busyFolds();

    /** BUSY without FOLDS. */
    static final Scene NO_FOLDS = new Scene().names(3, 4, 2, 5).busyTrials().busyBracket();

    /** No SCORED TRIAL, but OPEN ones, one that FAILED (4) and one PRUNED (1), a BRACKET and FOLDS. */
    static final Scene NO_SCORES = new Scene().names(3, 4, 2, 5).grid(8).plus(x -> x.report(3, 5, 0),
        x -> x.report(0, 6, 0), x -> x.report(1, 4, 1), x -> x.score(4, 9, false)).busyBracket().busyFolds();

    /** As many NAMES, TRIALS, REPORTS and rows as there can be. */
    static final Scene FULL = new Scene().fullSpace().fullTrials().fullBracket().fullFolds();

    /** A BRACKET that is over with TRIAL 3 left IN it. */
    static final Scene OVER = new Scene().names(3, 4, 2, 5).grid(5).plus(x -> x.bracket(0, 4, 6, 3),
        x -> x.result(0, 1, true), x -> x.result(1, 2, true), x -> x.result(2, 0, false), x -> x.result(3, 9, true),
        x -> x.halve());

    private final List<Call> calls = new ArrayList<>();

    private Scene() {
    }

    private Scene plus(Call... more) {
        calls.addAll(List.of(more));
        return this;
    }

    /** A longer Scene; this one stays as it is. */
    Scene then(Call... more) {
        Scene longer = new Scene();
        longer.calls.addAll(calls);
        return longer.plus(more);
    }

    Counted play() {
        Counted x = new Counted();
        for (Call call : calls) {
            call.on(x);
        }
        return x;
    }

    /** The second NAME is ON the first, the third ON the second, the fourth always there. */
    private Scene names(int first, int second, int third, int fourth) {
        return plus(x -> x.name(first, -1, 0), x -> x.name(second, 0, 0b101), x -> x.name(third, 1, 0b1010),
            x -> x.name(fourth, -1, 0));
    }

    private Scene grid(int count) {
        for (int i = 0; i < count; i++) {
            int number = i;
            plus(x -> x.trial(0, number));
        }
        return this;
    }

    /** STATES 1 1 2 0 3 0 0 0. */
    private Scene busyTrials() {
        return grid(3).plus(x -> x.trial(1, 77), x -> x.trial(2, -5), x -> x.trial(1, 8), x -> x.trial(0, 64),
            x -> x.score(0, 50, true), x -> x.score(1, -7, true), x -> x.score(2, 9, false), x -> x.report(3, 5, 0),
            x -> x.report(3, 6, 0), x -> x.report(4, 4, 1), x -> x.report(5, 9, 0), x -> x.guess(5, 10, 2));
    }

    /** In its second ROUND TRIALS 1, 2 and 3 are IN: 2 has a RESULT, 3 FAILED, 1 has none yet. */
    private Scene busyBracket() {
        return plus(x -> x.bracket(1, 6, 9, 2), x -> x.result(1, 4, true), x -> x.result(2, 5, true),
            x -> x.result(3, 5, true), x -> x.result(4, -1, true), x -> x.result(5, 99, false),
            x -> x.result(6, 2, true), x -> x.halve(), x -> x.result(2, 7, true), x -> x.result(3, 8, false));
    }

    private Scene busyFolds() {
        return plus(x -> x.folds(23, 3, 4, 11), x -> x.use(0, 1), x -> x.use(0, 3), x -> x.use(1, 2), x -> x.use(1, -1),
            x -> x.use(2, 0));
    }

    private Scene fullSpace() {
        for (int i = 0; i < 8; i++) {
            plus(x -> x.name(30, -1, 0));
        }
        return this;
    }

    /** TRIAL 5 has all its REPORTS and is OPEN. */
    private Scene fullTrials() {
        grid(60).plus(x -> x.score(3, 1_000_000, true), x -> x.score(4, -1_000_000, true));
        for (int step = 0; step < 20; step++) {
            int v = step;
            plus(x -> x.report(5, v, 0));
        }
        return this;
    }

    private Scene fullBracket() {
        return plus(x -> x.bracket(0, 60, 1_000_000, 5), x -> x.result(0, 1, true), x -> x.result(59, -1, true));
    }

    private Scene fullFolds() {
        return plus(x -> x.folds(200, 10, 10, -1), x -> x.use(0, 0), x -> x.use(9, 9), x -> x.use(9, -1));
    }
}
