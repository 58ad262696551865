import java.util.ArrayList;
import java.util.List;

/** What the document says at the boundaries of SESSIONS, the TABLE and POSTS: promises 38 to 44. */
final class CongressBounds {
    private final Bounds b;
    private final Scene rich = Scene.rich();

    CongressBounds(Bounds bounds) {
        b = bounds;
    }

    void all() {
        sessionsEver();
        session();
        hall();
        rooms();
        mostHeard();
        table();
        posts();
        road();
        forbid();
        byPost();
        letter();
        rounds();
        round();
    }

    private void sessionsEver() {
        b.term("SESSIONS, 6 ever, numbered as they come, each with a set of PERSONS who want it");
        List<String> calls = new ArrayList<>();
        for (int k = 0; k < 6; k++) calls.add("session(" + k + ")");
        b.ever(Scene.NEW.persons(3), 8, calls, "session(0)");
        b.due(Scene.NEW.persons(3).and(calls).and("hall(3, 4)"), "table(-1) = 7", "table(3) = 1", "table(4) = 0", "table(5) = 2",
            "table(6) = UNKNOWN");
    }

    private void session() {
        new Ladder(b, 38, rich, "session(wanted = 1)")
            .rung("OUTSIDE: a bit of no PERSON", "OUTSIDE").when("wanted = 64 | 65 | -1 | 4096 | MIN | MAX")
            .rung("FULL", "FULL").when("", Scene.NEW.times(3, "session(0)"))
            .takes("wanted = 0 | 32 | 63", "3").climb();
        b.each(Scene.NEW, "session(0) = 0", "session(1) = OUTSIDE");
        b.each(rich.persons(6), "session(4095) = 3", "session(4096) = OUTSIDE", "session(6144) = OUTSIDE");
    }

    private void hall() {
        b.term("TURNS (1 .. 3; 2 at first), ROOMS (1 .. 4; 2 at first)");
        // One PERSON that wants all hears as many as there are TURNS; two TURNS of two ROOMS have room for four.
        Scene one = Scene.NEW.persons(1);
        b.due(one.times(4, "session(1)"), "table(-1) = 2", "table(0) = 0", "table(3) = 1");
        b.due(one.times(5, "session(1)"), "table(-1) = NONE", "table(0) = NONE", "table(4) = NONE");
        for (int turns = 1; turns <= 3; turns++) for (int rooms = 1; rooms <= 4; rooms++) {
            String hall = "hall(" + turns + ", " + rooms + ")";
            int most = Math.min(6, turns * rooms);
            // As many as there is room for, and one more.
            b.due(one.times(most, "session(1)").and(hall), "table(-1) = " + Math.min(turns, most), "table(0) = 0");
            if (most < 6) b.due(one.times(most + 1, "session(1)").and(hall), "table(-1) = NONE", "table(" + most + ") = NONE");
        }
        new Ladder(b, 39, rich, "hall(turns = 2, rooms = 2)")
            .rung("OUTSIDE", "OUTSIDE").when("turns = 0 | 4 | -1 | MIN | MAX").when("rooms = 0 | 5 | -1 | MIN | MAX")
            .takes("turns = 1 | 3, rooms = 1 | 4", "1").climb();
        b.of(39, "TURNS, ROOMS become so: 1.");
        b.due(rich, "hall(3, 1) = 1", "hall(3, 1) = 1", "table(-1) = 6", "hall(1, 4) = 1", "table(-1) = 5", "hall(1, 2) = 1",
            "table(-1) = NONE");
    }

    private void rooms() {
        b.term("TABLE: each SESSION in a TURN, no more in one than ROOMS");
        Scene none = Scene.NEW.persons(1).times(3, "session(0)");
        b.due(none.and("hall(3, 1)"), "table(0) = 0", "table(1) = 1", "table(2) = 2");
        b.due(none.and("hall(3, 2)"), "table(0) = 0", "table(1) = 0", "table(2) = 1");
        b.due(none.and("hall(3, 3)"), "table(0) = 0", "table(1) = 0", "table(2) = 0", "table(-1) = 0");
    }

    private void mostHeard() {
        b.term("HEARD: of each PERSON the TURNS in which there is one it wants, together.");
        Scene two = Scene.NEW.persons(2).and("session(3)", "session(1)", "session(1)", "session(2)");
        b.due(two, "table(-1) = 4", "table(0) = 0", "table(1) = 0", "table(2) = 1", "table(3) = 1");
        b.due(two.and("hall(1, 4)"), "table(-1) = 2");
        b.due(Scene.NEW.persons(12).times(6, "session(4095)").and("hall(3, 4)"), "table(-1) = 36");
        b.term("The TABLE with the most HEARD; of several the first as a row by SESSIONS of TURNS.");
        b.due(Scene.NEW.persons(2).and("session(1)", "session(2)", "session(1)"), "table(0) = 0", "table(1) = 0", "table(2) = 1",
            "table(-1) = 3");
        b.due(Scene.NEW.persons(2).and("session(1)", "session(1)", "session(2)"), "table(0) = 0", "table(1) = 1", "table(2) = 0",
            "table(-1) = 3");
        b.due(Scene.NEW.persons(2).and("session(2)", "session(1)", "session(1)", "session(3)", "hall(3, 2)"), "table(0) = 0",
            "table(1) = 0", "table(2) = 1", "table(3) = 2", "table(-1) = 5");
    }

    private void table() {
        new Ladder(b, 40, rich, "table(s = 0)")
            .rung("UNKNOWN", "UNKNOWN").when("s = -2 | 3 | MIN | MAX")
            .climb();
        b.of(40, "The TURN of a SESSION in the TABLE (s), HEARD (s -1); NONE: there is no TABLE.");
        b.due(rich, "table(-1) = 6", "table(0) = 0", "table(1) = 1", "table(2) = 2");
        b.due(Scene.NEW, "table(-1) = 0", "table(0) = UNKNOWN");
        Scene none = rich.and("hall(1, 2)");
        b.due(none, "table(-1) = NONE", "table(2) = NONE", "table(3) = UNKNOWN", "table(-2) = UNKNOWN");
    }

    private void posts() {
        b.term("POSTS 0 .. 9, ROADS between two, and which FORBID (a set).");
        b.due(Scene.NEW, "road(0, 9, true) = 1", "letter(0, 9) = 1", "letter(9, 0) = 1", "round(9) = 2", "round(8) = 1", "forbid(513) = 0",
            "forbid(0) = 513");
        b.each(Scene.NEW, "road(0, 10, true) = UNKNOWN", "road(-1, 9, true) = UNKNOWN", "round(10) = UNKNOWN", "round(-1) = UNKNOWN");
        // Ten POSTS have 45 ROADS.
        Scene all = Scene.NEW;
        for (int p = 0; p < 10; p++) for (int q = 0; q < p; q++) all = all.and("road(" + p + ", " + q + ", true)");
        b.due(all, "many(10) = 45", "letter(0, 9) = 1", "round(0) = 10", "road(9, 0, true) = 0", "road(9, 0, false) = 1", "many(10) = 44",
            "letter(0, 9) = 2");
    }

    private void road() {
        new Ladder(b, 41, rich, "road(a = 5, b = 6, is = true)")
            .rung("UNKNOWN", "UNKNOWN").when("a = -1 | 10 | MIN | MAX").when("b = -1 | 10 | MIN | MAX")
            .rung("OUTSIDE: both are one", "OUTSIDE").when("a = 6").when("b = 5")
            .takes("a = 0 | 9", "1").takes("b = 0 | 9", "1").takes("is = false", "0").climb();
        b.each(rich, "road(10, 10, true) = UNKNOWN", "road(-1, -1, false) = UNKNOWN", "road(9, 9, false) = OUTSIDE",
            "road(0, 0, true) = OUTSIDE");
        b.of(41, "1; 0: it was so");
        b.due(rich, "road(0, 1, true) = 0", "road(1, 0, true) = 0", "many(10) = 5", "road(1, 0, false) = 1", "road(0, 1, false) = 0",
            "many(10) = 4", "road(0, 1, true) = 1", "many(10) = 5");
    }

    private void forbid() {
        new Ladder(b, 42, rich, "forbid(set = 5)")
            .rung("OUTSIDE", "OUTSIDE").when("set = -1 | 1024 | 1025 | MIN | MAX")
            .takes("set = 0 | 512 | 1023", "2").climb();
        b.due(rich, "forbid(1023) = 2", "forbid(1023) = 1023", "forbid(0) = 1023", "forbid(0) = 0");
        b.due(Scene.NEW, "forbid(1) = 0");
    }

    private static Scene chain() {
        Scene all = Scene.NEW;
        for (int post = 0; post < 9; post++) all = all.and("road(" + post + ", " + (post + 1) + ", true)");
        return all;
    }

    private void byPost() {
        b.term("BY POST: the fewest ROADS from one to another, by no POST between that FORBIDS");
        // The longest way has nine ROADS; it is cut by each POST between, and by neither end.
        b.due(chain(), "letter(0, 9) = 9", "letter(9, 0) = 9", "letter(0, 8) = 8");
        for (int post = 0; post < 10; post++) {
            boolean between = post > 0 && post < 9;
            b.due(chain().and("forbid(" + (1 << post) + ")"), "letter(0, 9) = " + (between ? "NONE" : "9"),
                "letter(9, 0) = " + (between ? "NONE" : "9"), "letter(0, " + post + ") = " + post,
                "letter(" + post + ", 9) = " + (9 - post), "letter(" + post + ", " + post + ") = 0");
        }
        b.due(chain().and("forbid(1023)"), "letter(4, 5) = 1", "letter(4, 6) = NONE", "letter(4, 4) = 0");
        // Past one that FORBIDS it is longer.
        b.due(Scene.NEW.and("road(0, 1, true)", "road(1, 2, true)", "road(0, 3, true)", "road(3, 4, true)", "road(4, 2, true)"),
            "letter(0, 2) = 2", "forbid(2) = 0", "letter(0, 2) = 3", "forbid(10) = 2", "letter(0, 2) = NONE", "letter(0, 3) = 1",
            "letter(0, 4) = NONE", "letter(4, 0) = NONE", "letter(3, 2) = 2");
    }

    private void letter() {
        new Ladder(b, 43, rich, "letter(a = 0, b = 3)")
            .rung("UNKNOWN", "UNKNOWN").when("a = -1 | 10 | MIN | MAX").when("b = -1 | 10 | MIN | MAX")
            .climb();
        b.of(43, "BY POST from a to b (0: they are one); NONE.");
        b.each(rich, "letter(0, 3) = 2", "letter(0, 2) = 3", "letter(0, 0) = 0", "letter(9, 9) = 0", "letter(1, 1) = 0",
            "letter(0, 9) = NONE", "letter(9, 0) = NONE", "letter(10, 10) = UNKNOWN");
    }

    private void rounds() {
        b.term("ROUNDS: how many POSTS are come to so from one (itself counts).");
        b.due(Scene.NEW, "round(0) = 1", "round(9) = 1");
        b.due(chain(), "round(0) = 10", "round(9) = 10", "forbid(1) = 0", "round(0) = 10", "forbid(512) = 1", "round(0) = 10",
            "forbid(2) = 512", "round(0) = 2", "round(1) = 10", "round(2) = 9", "forbid(1023) = 2", "round(0) = 2", "round(5) = 3");
    }

    private void round() {
        new Ladder(b, 44, rich, "round(a = 0)")
            .rung("UNKNOWN", "UNKNOWN").when("a = -1 | 10 | MIN | MAX")
            .takes("a = 0", "5").takes("a = 9", "1").climb();
    }
}
