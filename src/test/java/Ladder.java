import java.util.ArrayList;
import java.util.LinkedHashMap;
import java.util.List;
import java.util.Map;

/**
 * A call's refusals and FAULTS in the order in which its line tells them, each with what leads to it from a call that
 * is taken. Each is asked for alone, and each together with every later one, ahead of which it must come.
 */
final class Ladder {
    /** Arguments that are others than in the call that is taken, and calls ahead of it. */
    private record Step(Map<String, String> others, Scene ahead) { }

    private record Rung(String answer, List<Step> steps) { }

    private final Bounds bounds;
    private final int promise;
    private final Scene scene;
    private final String name;
    private final Map<String, String> given = new LinkedHashMap<>();
    private final List<Rung> rungs = new ArrayList<>();

    /** A call that is taken: "root(kind = 0, cls = 0, sheet = 2, lane = 2, i = 4, n = 1)". */
    Ladder(Bounds bounds, int promise, Scene scene, String call) {
        this.bounds = bounds;
        this.promise = promise;
        this.scene = scene;
        this.name = Play.nameOf(call);
        for (String one : call.substring(call.indexOf('(') + 1, call.length() - 1).split(", ")) {
            String[] sides = one.split(" = ");
            given.put(sides[0], sides[1]);
        }
    }

    private String callWith(Map<String, String> others) {
        Map<String, String> all = new LinkedHashMap<>(given);
        others.forEach((arg, value) -> {
            if (all.replace(arg, value) == null) throw new IllegalStateException(name + " has no " + arg);
        });
        return name + "(" + String.join(", ", all.values()) + ")";
    }

    /** "i = 1 | 2, n = 0" as all that it stands for. */
    private static List<Map<String, String>> readOthers(String told) {
        List<Map<String, String>> all = new ArrayList<>(List.of(Map.of()));
        if (told.isEmpty()) return all;
        for (String one : told.split(", ")) {
            String[] sides = one.split(" = ");
            List<Map<String, String>> longer = new ArrayList<>();
            for (Map<String, String> so : all) for (String value : sides[1].split(" \\| ")) {
                Map<String, String> more = new LinkedHashMap<>(so);
                more.put(sides[0], value);
                longer.add(more);
            }
            all = longer;
        }
        return all;
    }

    /** The document's words for the next refusal, and its answer. */
    Ladder rung(String words, String answer) {
        bounds.of(promise, words);
        rungs.add(new Rung(answer, new ArrayList<>()));
        return this;
    }

    /** What leads to the latest refusal, and that it does. */
    Ladder when(String told) {
        return when(told, Scene.NEW);
    }

    Ladder when(String told, Scene ahead) {
        Rung rung = rungs.get(rungs.size() - 1);
        for (Map<String, String> others : readOthers(told)) {
            rung.steps.add(new Step(others, ahead));
            bounds.due(scene.and(ahead), callWith(others) + " = " + rung.answer);
        }
        return this;
    }

    /** Where the call is taken still. */
    Ladder takes(String told, String answer) {
        for (Map<String, String> others : readOthers(told)) bounds.due(scene, callWith(others) + " = " + answer);
        return this;
    }

    /** Of several the first: each refusal against all later ones. */
    void climb() {
        bounds.term("of several the first in the order in which a call's line tells them");
        for (int first = 0; first < rungs.size(); first++) {
            for (int later = first + 1; later < rungs.size(); later++) {
                for (Step step : rungs.get(first).steps) {
                    for (Step other : rungs.get(later).steps) both(rungs.get(first).answer, step, other);
                }
            }
        }
    }

    private void both(String answer, Step step, Step other) {
        for (String arg : step.others.keySet()) if (other.others.containsKey(arg)) return;
        Map<String, String> all = new LinkedHashMap<>(other.others);
        all.putAll(step.others);
        bounds.answers(scene.and(other.ahead).and(step.ahead), callWith(all), answer);
    }
}
