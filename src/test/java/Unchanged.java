import java.util.ArrayList;
import java.util.List;

/**
 * What is refused changes nothing, nor does a question: two objects of one Scene are compared in all that later calls
 * show, one of which was spared the call.
 */
final class Unchanged {
    // A Scene has fewer than 200 calls, and one of these makes two at most: all stay below the document's 512.
    private static final int CALLS_A_PAIR = 140;
    private static final List<List<Scene.Call>> LATER = later();

    private Unchanged() {
    }

    /** The call answers what is due, and whatever comes later is as if it had not been made. */
    static void by(Check check, Scene scene, String text, Scene.Call call, long due) {
        check.due(text, call.on(scene.play()), due);
        for (int part = 0; part < LATER.size(); part++) {
            Counted spared = scene.play();
            Counted asked = scene.play();
            call.on(asked);
            int at = 0;
            for (Scene.Call later : LATER.get(part)) {
                check.due(text + ", changes nothing, part " + part + " call " + at, later.on(asked), later.on(spared));
                at++;
            }
        }
    }

    private static List<List<Scene.Call>> later() {
        List<List<Scene.Call>> all = new ArrayList<>();
        List<Scene.Call> shown = new ArrayList<>();
        showSpace(shown);
        showTrials(shown);
        showRounds(shown);
        showFolds(shown);
        for (int from = 0; from < shown.size(); from += CALLS_A_PAIR) {
            all.add(shown.subList(from, Math.min(shown.size(), from + CALLS_A_PAIR)));
        }
        all.add(addNames());
        all.add(addTrials());
        all.add(showNewTrials());
        all.add(scoreAll());
        all.add(reportAll());
        all.add(endRound());
        all.add(List.of(x -> x.halve(), x -> x.round(0), x -> x.round(1), x -> x.round(2), x -> x.round(3)));
        all.add(newBracket());
        all.add(useAll());
        all.add(newFolds());
        return all;
    }

    /** POINTS from the first to the last, and each NAME's VALUES up to the first that is none. */
    private static void showSpace(List<Scene.Call> shown) {
        shown.add(x -> x.points());
        for (int i = 0; i <= 12; i++) {
            int part = i;
            for (int name = 0; name < 8; name++) {
                int asked = name;
                shown.add(x -> x.value(pointAt(x, part), asked));
            }
            shown.add(x -> x.distance(pointAt(x, part), 0));
        }
        for (int name = 0; name < 8; name++) {
            for (int v = 0; v < 32; v++) {
                long w = Make.word(2, 1) & ~(31L << (5 * name)) | (long) v << (5 * name);
                shown.add(x -> x.number(w));
            }
        }
    }

    private static long pointAt(Counted x, int part) {
        return (x.points() - 1) * part / 12;
    }

    /** FORECASTS first, as they look at what no other call shows: where the SCORED TRIALS are. */
    private static void showTrials(List<Scene.Call> shown) {
        shown.add(x -> x.best());
        for (int i = 0; i <= 60; i++) {
            int p = i;
            shown.add(x -> x.forecast(p, 1, 0));
            shown.add(x -> x.forecast(p, 3, 0));
            shown.add(x -> x.forecast(p, 5, 1));
        }
        for (int i = 0; i <= 60; i++) {
            int t = i;
            for (int what = 0; what < 5; what++) {
                int asked = what;
                shown.add(x -> x.told(t, asked));
            }
            shown.add(x -> x.point(t));
            for (int step = 0; step <= 20; step++) {
                int asked = step;
                shown.add(x -> x.reported(t, asked));
            }
        }
    }

    private static void showRounds(List<Scene.Call> shown) {
        for (int what = 0; what < 4; what++) {
            int asked = what;
            shown.add(x -> x.round(asked));
        }
        shown.add(x -> x.cost());
        shown.add(x -> x.plan(81, 3, 2, 0));
    }

    private static void showFolds(List<Scene.Call> shown) {
        for (int i = 0; i <= 200; i++) {
            int row = i;
            shown.add(x -> x.fold(row, 0));
            shown.add(x -> x.fold(row, 1));
            for (int o = 0; o < 10; o++) {
                int outer = o;
                for (int what = 0; what < 3; what++) {
                    int asked = what;
                    shown.add(x -> x.used(row, outer, asked));
                }
            }
        }
        shown.add(x -> x.used(0, 10, 0));
    }

    private static List<Scene.Call> addNames() {
        return List.of(x -> x.name(2, -1, 0), x -> x.points(), x -> x.name(3, 0, 2), x -> x.points());
    }

    private static List<Scene.Call> addTrials() {
        return List.of(x -> x.point(x.trial(0, 4)), x -> x.point(x.trial(1, 9)), x -> x.point(x.trial(2, 9)),
            x -> x.point(x.guess(7, 40, 3)), x -> x.trial(0, 0));
    }

    /** The new TRIALS are 0 to 2 where there was none, 8 to 10 in most Scenes. */
    private static List<Scene.Call> showNewTrials() {
        List<Scene.Call> calls = new ArrayList<>();
        for (int i = 0; i < 3; i++) {
            calls.add(x -> x.trial(0, 4));
        }
        for (int t : new int[] {0, 1, 2, 8, 9, 10}) {
            for (int what = 0; what < 5; what++) {
                int asked = what;
                calls.add(x -> x.told(t, asked));
            }
            calls.add(x -> x.reported(t, 0));
            calls.add(x -> x.report(t, 7, 1));
        }
        return calls;
    }

    private static List<Scene.Call> scoreAll() {
        List<Scene.Call> calls = new ArrayList<>();
        for (int i = 0; i < 60; i++) {
            int t = i;
            calls.add(x -> x.score(t, t, true));
        }
        calls.add(x -> x.best());
        for (int i = 0; i <= 60; i++) {
            int p = i;
            calls.add(x -> x.forecast(p, 2, 0));
        }
        return calls;
    }

    private static List<Scene.Call> reportAll() {
        List<Scene.Call> calls = new ArrayList<>();
        for (int i = 0; i < 60; i++) {
            int t = i;
            calls.add(x -> x.report(t, t % 7, 1));
        }
        return calls;
    }

    private static List<Scene.Call> endRound() {
        List<Scene.Call> calls = new ArrayList<>();
        for (int i = 0; i < 60; i++) {
            int t = i;
            calls.add(x -> x.result(t, t % 7, true));
        }
        calls.add(x -> x.halve());
        calls.add(x -> x.cost());
        calls.add(x -> x.round(2));
        return calls;
    }

    private static List<Scene.Call> newBracket() {
        return List.of(x -> x.trial(0, 1), x -> x.trial(0, 2), x -> x.bracket(0, 2, 5, 3), x -> x.round(0),
            x -> x.round(1), x -> x.round(2), x -> x.round(3), x -> x.cost(), x -> x.told(0, 3), x -> x.told(2, 4),
            x -> x.result(0, 1, true), x -> x.result(1, 2, true), x -> x.halve(), x -> x.round(2), x -> x.cost());
    }

    private static List<Scene.Call> newFolds() {
        List<Scene.Call> calls = new ArrayList<>();
        calls.add(x -> x.folds(30, 4, 3, 7));
        calls.add(x -> x.use(0, 2));
        calls.add(x -> x.use(0, -1));
        for (int i = 0; i <= 30; i++) {
            int row = i;
            calls.add(x -> x.fold(row, 0) * 10 + x.fold(row, 1));
            for (int what = 0; what < 3; what++) {
                int asked = what;
                calls.add(x -> x.used(row, 0, asked));
            }
        }
        return calls;
    }

    private static List<Scene.Call> useAll() {
        List<Scene.Call> calls = new ArrayList<>();
        for (int o = 0; o < 10; o++) {
            int outer = o;
            for (int i = 10; i >= -1; i--) {
                int inner = i;
                calls.add(x -> x.use(outer, inner));
            }
        }
        return calls;
    }
}
