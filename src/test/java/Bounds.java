import java.io.IOException;
import java.nio.file.Path;
import java.util.ArrayList;
import java.util.HashMap;
import java.util.List;
import java.util.Map;
import java.util.Set;

/**
 * Tests of what the document says at its boundaries, each under the words of the document that it is for. Of each
 * call that is asked for here it is looked at what it answers, what fault() answers behind it, and, of one that is
 * refused or comes to a FAULT, that it changed nothing.
 */
final class Bounds {
    private static final Map<String, Long> ANSWERS = Map.of("UNKNOWN", -1L, "OUTSIDE", -2L, "STATE", -3L, "FULL", -4L, "NONE", -9L,
        "NULL", -11L, "CAST", -12L, "INDEX", -13L, "SIZE", -14L, "LOST", Long.MIN_VALUE);
    private static final List<String> FAULTS = List.of("", "NULL", "CAST", "INDEX", "SIZE");
    private static final Set<String> REFUSALS = Set.of("UNKNOWN", "OUTSIDE", "STATE", "FULL");
    private static final Set<String> NAME_FAULTS = Set.of("root", "ending", "rule", "ways", "parse", "sentence", "tongue", "reform",
        "sheet", "put", "cell", "copy", "as");
    // Each changes nothing but fault(), in any state: to 4, and to 1 or 3.
    private static final String TO_SIZE = "sheet(0, 0, -1)", TO_INDEX = "put(0, MAX, 0)";

    private final Document document;
    private final Map<List<String>, List<List<Long>>> portraits = new HashMap<>();
    private String where = "";
    private int sentences;
    private int right;
    private int wrong;

    Bounds(Path path) throws IOException {
        document = new Document(path);
    }

    /** What comes next is for these words of a promise. */
    Bounds of(int promise, String words) {
        return under(String.valueOf(promise), words);
    }

    /** What comes next is for these words of the document's terms. */
    Bounds term(String words) {
        return under(Document.TERMS, words);
    }

    Bounds under(String title, String words) {
        where = title + " \"" + words + "\"";
        sentences++;
        hold("these are the document's words", document.quote(title, words));
        return this;
    }

    void hold(String what, boolean holds) {
        if (holds) {
            right++;
            return;
        }
        wrong++;
        if (wrong <= 60) System.out.println("  " + where + ": " + what);
    }

    /** Calls one behind the other on a new object brought to a scene, each as "call = answer". */
    void due(Scene scene, String... lines) {
        Play play = played(scene);
        Scene so = scene;
        for (String line : lines) {
            int at = line.lastIndexOf(" = ");
            String call = line.substring(0, at), answer = line.substring(at + 3);
            long got = play.ask(call);
            hold(call + " answered " + got + ", due is " + answer, got == valueOf(answer));
            lookBehind(so, call, answer);
            so = so.and(call);
        }
    }

    /** As due(), of each line on an object of its own. */
    void each(Scene scene, String... lines) {
        for (String line : lines) due(scene, line);
    }

    private Play played(Scene scene) {
        Play play = new Play();
        for (String call : scene.calls()) {
            long got = play.ask(call);
            // A row may have cells below 0, and NONE is no refusal; all else of a scene is done.
            boolean done = got >= 0 || got == ANSWERS.get("NONE") || call.startsWith("cell") || call.startsWith("trace");
            hold("the scene's own " + call + " answered " + got, done);
        }
        return play;
    }

    /** "LOST NULL" is LOST by a FAULT, "LOST" by a refusal. */
    static long valueOf(String answer) {
        String first = answer.split(" ")[0];
        return ANSWERS.containsKey(first) ? ANSWERS.get(first) : Long.parseLong(first);
    }

    private static int faultOf(String answer) {
        String[] words = answer.split(" ");
        return Math.max(0, FAULTS.indexOf(words[words.length - 1]));
    }

    private static boolean changesNothing(String call, String answer) {
        boolean firstFault = Play.nameOf(call).equals("rule") && valueOf(answer) <= -100;
        return firstFault || REFUSALS.contains(answer) || faultOf(answer) > 0 || answer.equals("LOST");
    }

    private void lookBehind(Scene scene, String call, String answer) {
        // What fault() itself answers depends on what is done ahead of it.
        if (call.equals("fault()")) return;
        answers(scene, call, answer);
        if (!changesNothing(call, answer)) return;
        List<List<Long>> was = portraits.computeIfAbsent(scene.calls(), Portrait::of);
        String other = Portrait.difference(was, Portrait.of(scene.and(call).calls()));
        hold(call + " = " + answer + " changed something: " + other, other == null);
    }

    /** What one call answers, and fault() behind it, where another FAULT had come ahead of it. */
    void answers(Scene scene, String call, String answer) {
        int fault = faultOf(answer);
        Play play = new Play().through(scene.calls());
        play.ask(fault == 4 ? TO_INDEX : TO_SIZE);
        long before = play.ask("fault()");
        long got = play.ask(call);
        hold(call + " answered " + got + ", due is " + answer, got == valueOf(answer));
        long due = NAME_FAULTS.contains(Play.nameOf(call)) ? fault : before;
        long behind = play.ask("fault()");
        hold("fault() answered " + behind + " behind " + call + ", due is " + due, behind == due);
    }

    /** What "N ever, numbered as they come" says: calls that each make one, then one that finds no room. */
    void ever(Scene scene, int what, List<String> makings, String oneMore) {
        List<String> lines = new ArrayList<>();
        for (int k = 0; k < makings.size(); k++) lines.add(makings.get(k) + " = " + k);
        lines.add("many(" + what + ") = " + makings.size());
        lines.add(oneMore + " = FULL");
        lines.add("many(" + what + ") = " + makings.size());
        due(scene, lines.toArray(new String[0]));
    }

    void end(String name) {
        where = "the document";
        for (String left : document.leftOut()) hold("no test is for \"" + left + "\"", false);
        for (String left : document.neverQuoted()) hold("no test is for promise " + left, false);
        hold("it has 55 promises", document.promises() == 55);
        System.out.println(name + ": " + sentences + " sentences, " + right + " answers as due, " + wrong + " not");
        if (wrong != 0) System.exit(1);
    }
}
