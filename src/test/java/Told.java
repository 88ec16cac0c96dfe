import java.util.LinkedHashMap;
import java.util.Map;

/** All that an object tells of its state, and tests that compare it; some 300 calls. */
final class Told {
    private Told() {
    }

    /** What is told of the state, without the lengths of history and text. */
    static Map<String, Integer> state(GlassRacks x) {
        Map<String, Integer> told = new LinkedHashMap<>();
        for (int what = 0; what <= 24; what++) {
            if (what < 13 || what >= 20) {
                told.put("count(" + what + ")", x.count(what));
            }
        }
        for (int rack = 0; rack < 4; rack++) {
            for (int place = 0; place < 8; place++) {
                int sheet = x.at(rack, place);
                if (sheet < 0) {
                    break;
                }
                told.put("at(" + rack + ", " + place + ")", sheet);
                for (int what = 0; what < 6; what++) {
                    told.put("sheet(" + sheet + ", " + what + ")", x.sheet(sheet, what));
                }
            }
        }
        for (int order = 0; order < x.count(9); order++) {
            for (int what = 0; what < 8; what++) {
                told.put("ordered(" + order + ", " + what + ")", x.ordered(order, what));
            }
            for (int choice = 0; choice < 3; choice++) {
                told.put("choice(" + order + ", " + choice + ")", x.choice(order, choice));
            }
            told.put("next(" + order + ")", x.next(order));
        }
        for (int choice = 0; choice < 3; choice++) {
            for (int what = 0; what < 4; what++) {
                told.put("wouldPlan(" + choice + ", " + what + ")", x.wouldPlan(choice, what));
            }
        }
        return told;
    }

    static Map<String, Integer> all(GlassRacks x) {
        Map<String, Integer> told = state(x);
        told.put("count(13)", x.count(13));
        told.put("count(14)", x.count(14));
        return told;
    }

    /** Prints the first thing that is told otherwise. */
    static void same(String name, Map<String, Integer> got, Map<String, Integer> want) {
        String difference = "";
        for (String key : want.keySet()) {
            if (difference.isEmpty() && !want.get(key).equals(got.get(key))) {
                difference = ": " + key + " is " + got.get(key) + ", due is " + want.get(key);
            }
        }
        if (difference.isEmpty() && got.size() != want.size()) {
            difference = ": more is told than due";
        }
        Due.due(name + difference + ", as due", difference.isEmpty() ? 1 : 0, 1);
    }

    /** That a call answers an error or NONE and changes nothing: not the state, nor the text, the history, the snapshot. */
    static void refused(String name, Scenes.Making scene, Scenes.Call call, int want) {
        GlassRacks x = scene.make();
        Due.due(name, call.on(x), want);
        same(name + " changes nothing", all(x), all(scene.make()));
        for (int undos = 1; undos <= 5; undos++) {
            GlassRacks undone = scene.make();
            GlassRacks twin = scene.make();
            call.on(undone);
            int answer = NOTHING;
            int twins = NOTHING;
            for (int i = 0; i < undos; i++) {
                answer = undone.undo();
                twins = twin.undo();
            }
            Due.due(name + ", undo " + undos, answer, twins);
            same(name + " changes nothing of the history, undo " + undos, all(undone), all(twin));
        }
        sameBehind(name + " changes nothing of the snapshot", scene, call, GlassRacks::restore);
        sameBehind(name + " changes nothing of the text", scene, call, GlassRacks::perform);
    }

    private static final int NOTHING = 1000;

    private static void sameBehind(String name, Scenes.Making scene, Scenes.Call call, Scenes.Call next) {
        GlassRacks x = scene.make();
        GlassRacks twin = scene.make();
        call.on(x);
        Due.due(name, next.on(x), next.on(twin));
        same(name, all(x), all(twin));
    }

    /** That a call is an act: its answer is not below 0, it records one state, and undo brings back what was. */
    static void act(String name, Scenes.Making scene, Scenes.Call call) {
        GlassRacks x = scene.make();
        GlassRacks twin = scene.make();
        int states = x.count(13);
        Due.due(name + " is done", call.on(x) >= 0 ? 1 : 0, 1);
        Due.due(name + " records one state", x.count(13), Math.min(4, states + 1));
        Due.due(name + " is undone", x.undo(), Math.min(4, states + 1) - 1);
        same(name + " is undone", state(x), state(twin));
    }
}
