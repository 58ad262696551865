import java.util.ArrayList;
import java.util.List;

/**
 * All that can be asked of a state, but fault(), which each question about SHEETS would change. Questions come in
 * groups, each of a new object brought to the state, so that they may change what they ask for, and stay few.
 */
final class Portrait {
    private static final List<List<String>> GROUPS = groups();

    private Portrait() { }

    /** The answers, group by group. */
    static List<List<Long>> of(List<String> state) {
        List<List<Long>> all = new ArrayList<>();
        for (List<String> group : GROUPS) {
            Play play = new Play().through(state);
            List<Long> answers = new ArrayList<>();
            for (String call : group) answers.add(play.ask(call));
            all.add(answers);
        }
        return all;
    }

    /** The first question that two states answer otherwise, or null. */
    static String difference(List<List<Long>> one, List<List<Long>> other) {
        for (int g = 0; g < GROUPS.size(); g++) {
            for (int k = 0; k < GROUPS.get(g).size(); k++) {
                Long was = one.get(g).get(k), is = other.get(g).get(k);
                if (!was.equals(is)) return GROUPS.get(g).get(k) + " answered " + was + " ahead of it, " + is + " behind";
            }
        }
        return null;
    }

    private static List<List<String>> groups() {
        List<List<String>> all = new ArrayList<>();
        all.add(countsAndRoots());
        all.add(joining());
        all.add(ways());
        all.add(meanings());
        all.add(persons("heard"));
        all.add(persons("easy"));
        all.add(months());
        all.add(bodies());
        all.add(doublesAndCongress());
        all.add(posts());
        for (int k = 0; k < 4; k++) all.add(sheet(k));
        all.add(whatComesNext());
        return all;
    }

    private static List<String> countsAndRoots() {
        List<String> asked = new ArrayList<>(List.of("trace()"));
        for (int what = 0; what <= 10; what++) asked.add("many(" + what + ")");
        for (int x = 0; x < 16; x++) for (int what = 0; what < 9; what++) asked.add("ofRoot(" + x + ", " + what + ")");
        return asked;
    }

    private static List<String> joining() {
        // The first one tells whether THE STAND is still where Scene.rich() left it.
        String[] stands = {"2, 6", "0, 0", "1, 5", "2, 8", "3, 999"};
        List<String> asked = new ArrayList<>();
        addClasses(asked);
        for (String stand : stands) {
            asked.add("stand(" + stand + ")");
            addClasses(asked);
        }
        return asked;
    }

    private static void addClasses(List<String> asked) {
        for (int x = 0; x < 4; x++) for (int y = 0; y < 4; y++) {
            asked.add("why(" + x + ", " + y + ")");
            asked.add("may(" + x + ", " + y + ")");
        }
    }

    private static List<String> ways() {
        List<String> asked = new ArrayList<>();
        for (int k = -1; k < 12; k++) asked.add("two(" + k + ")");
        for (String word : new String[] {"abc", "abcbz", "abab", "abpq", "azazcbz", "bb", "pp", "app", "zzc"}) {
            int size = word.length();
            asked.addAll(Scene.NEW.word(0, 2, word).calls());
            asked.add("ways(0, 2, 0, " + size + ")");
            for (int k = 0; k < 4; k++) asked.add("parse(0, 2, 0, " + size + ", " + k + ")");
        }
        return asked;
    }

    private static List<String> meanings() {
        List<String> asked = new ArrayList<>();
        for (int s = 0; s < 10; s++) {
            for (int club = 0; club < 4; club++) asked.add("worlds(" + s + ", " + club + ")");
            asked.add("differ(" + s + ", 0, 1)");
            asked.add("differ(" + s + ", 1, 0)");
            asked.add("isTrue(" + s + ", 3, 700)");
        }
        for (int club = 0; club < 4; club++) for (int x = 0; x < 16; x++) asked.add("mean(" + club + ", " + x + ", 0, 0)");
        return asked;
    }

    private static List<String> persons(String call) {
        List<String> asked = new ArrayList<>();
        for (int p = 0; p < 12; p++) for (int x = 0; x < 16; x++) asked.add(call + "(" + p + ", " + x + ")");
        return asked;
    }

    private static List<String> months() {
        List<String> asked = new ArrayList<>();
        for (int x = 0; x < 16; x++) asked.add("spread(" + x + ")");
        for (int month = 0; month < 7; month++) {
            for (int p = 0; p < 12; p++) asked.add("knows(" + p + ")");
            asked.add("month()");
            asked.add("heard(2, 0)");
        }
        asked.add("need(1)");
        return asked;
    }

    private static List<String> bodies() {
        List<String> asked = new ArrayList<>(List.of("seats()", "part(0, 1, 0)", "part(0, 1, 1)", "part(4, 2, 0)", "part(4, 2, 1)"));
        for (int b = 0; b < 4; b++) {
            asked.add("beyond(" + b + ")");
            for (int act = 0; act < 3; act++) for (int yes : new int[] {0, 1, 7, 60}) {
                asked.add("vote(" + b + ", " + act + ", " + yes + ")");
            }
        }
        for (int p = 0; p < 12; p++) for (int q = 0; q < p; q++) asked.add("letters(" + p + ", " + q + ", 0)");
        return asked;
    }

    private static List<String> doublesAndCongress() {
        List<String> asked = new ArrayList<>(List.of("keep(0)", "keep(1)"));
        for (String hall : new String[] {"", "hall(1, 4)", "hall(2, 3)", "hall(3, 2)", "hall(3, 4)"}) {
            if (!hall.isEmpty()) asked.add(hall);
            for (int s = -1; s < 6; s++) asked.add("table(" + s + ")");
        }
        return asked;
    }

    private static List<String> posts() {
        List<String> asked = new ArrayList<>();
        for (int a = 0; a < 10; a++) {
            asked.add("round(" + a + ")");
            for (int b = 0; b < 10; b++) asked.add("letter(" + a + ", " + b + ")");
        }
        asked.add("forbid(0)");
        for (int a = 0; a < 10; a++) for (int b = 0; b < a; b++) asked.add("road(" + a + ", " + b + ", false)");
        return asked;
    }

    private static List<String> sheet(int k) {
        List<String> asked = new ArrayList<>();
        for (int lane = 0; lane < 3; lane++) for (int i = 0; i <= 60; i++) asked.add("cell(" + k + ", " + i + ", " + lane + ")");
        asked.add("lose(" + k + ")");
        return asked;
    }

    /** What is made next gets its number, and is just what it is made of. */
    private static List<String> whatComesNext() {
        return Scene.NEW.root(1, 3, "xy").ending(3, 3, "w").rule(-1, 0, 999, "o+o").sentence(2, 0, 0)
            .and("may(3, 3)", "why(3, 3)", "may(0, 0)", "worlds(0, 0)", "worlds(2, 0)", "ofRoot(5, 2)", "ofRoot(5, 5)")
            .word(0, 2, "xywxy").and("ways(0, 2, 0, 5)", "ways(0, 2, 0, 3)", "parse(0, 2, 0, 3, 1)", "two(-1)")
            .and("person(2)", "easy(6, 0)", "journal(1, 1)", "body(3, 7, 5)", "vote(2, 0, 1)", "pair(1, 2)", "keep(0)")
            .and("session(1)", "table(-1)", "month()", "many(9)", "tell(0)", "say(0)", "trace()", "beyond(2)").calls();
    }
}
