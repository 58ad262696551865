import java.util.ArrayList;
import java.util.List;

/** What the document says at the boundaries of MEANINGS, SENTENCES and WORLDS: promises 12 to 17. */
final class MeaningsBounds {
    private static final int ALL = 0, SOME = 1, NO = 2;

    private final Bounds b;
    private final Scene rich = Scene.rich();

    MeaningsBounds(Bounds bounds) {
        b = bounds;
    }

    void all() {
        features();
        things();
        worldsInOrder();
        mean();
        sentencesEver();
        sorts();
        sentence();
        world();
        isTrue();
        differ();
        worlds();
    }

    private void features() {
        b.term("(sets of FEATURES 0 .. 3; both empty at first)");
        Scene two = Scene.NEW.roots("a", "b");
        for (int club = 0; club < 4; club++) b.due(two, "mean(" + club + ", 0, 15, 15) = 0", "mean(" + club + ", 0, 0, 0) = 255");
        // Both empty: all THINGS are it.
        Scene none = two.sentence(ALL, 0, 1).sentence(SOME, 0, 1);
        b.due(none, "worlds(0, 0) = 969", "worlds(1, 3) = 968");
        for (int feature = 0; feature < 4; feature++) {
            int bit = 1 << feature;
            // WORLD 1 and t is of the one THING t.
            Scene has = none.and("mean(0, 0, " + bit + ", 0)"), not = none.and("mean(0, 0, 0, " + bit + ")");
            b.each(has, "isTrue(1, 0, " + (1 + bit) + ") = 1", "isTrue(1, 0, " + (16 - bit) + ") = 0", "isTrue(1, 0, 16) = 1",
                "isTrue(1, 0, 1) = 0");
            b.each(not, "isTrue(1, 0, " + (1 + bit) + ") = 0", "isTrue(1, 0, " + (16 - bit) + ") = 1", "isTrue(1, 0, 16) = 0",
                "isTrue(1, 0, 1) = 1");
        }
    }

    private void things() {
        b.term("A THING: a set of FEATURES (0 .. 15).");
        for (int thing = 0; thing < 16; thing++) b.due(Scene.NEW, "world(" + (1 + thing) + ", 0) = " + thing);
        // A THING must have all of the one set, and none of the other.
        Scene one = Scene.NEW.roots("a").sentence(SOME, 0, 0);
        for (int thing = 0; thing < 16; thing++) {
            boolean is = (thing & 5) == 5 && (thing & 2) == 0;
            b.due(one.and("mean(0, 0, 5, 2)"), "isTrue(0, 0, " + (1 + thing) + ") = " + (is ? 1 : 0));
            b.due(one.and("mean(0, 0, 15, 0)"), "isTrue(0, 0, " + (1 + thing) + ") = " + (thing == 15 ? 1 : 0));
            b.due(one.and("mean(0, 0, 0, 15)"), "isTrue(0, 0, " + (1 + thing) + ") = " + (thing == 0 ? 1 : 0));
            b.due(one.and("mean(0, 0, 8, 8)"), "isTrue(0, 0, " + (1 + thing) + ") = 0");
        }
    }

    private void worldsInOrder() {
        b.term("WORLDS: 0 to 3 THINGS, none below the one ahead; numbered by how many THINGS, then by THINGS from the first on: 0 .. 968.");
        List<int[]> all = new ArrayList<>(List.of(new int[0]));
        for (int x = 0; x < 16; x++) all.add(new int[] {x});
        for (int x = 0; x < 16; x++) for (int y = x; y < 16; y++) all.add(new int[] {x, y});
        for (int x = 0; x < 16; x++) for (int y = x; y < 16; y++) for (int z = y; z < 16; z++) all.add(new int[] {x, y, z});
        b.hold("there are 969 of them", all.size() == 969);
        for (int number = 0; number < all.size(); number++) {
            for (int k = 0; k < 3; k++) {
                int[] world = all.get(number);
                b.answers(Scene.NEW, "world(" + number + ", " + k + ")", k < world.length ? String.valueOf(world[k]) : "NONE");
            }
        }
    }

    private void mean() {
        new Ladder(b, 12, rich, "mean(club = 0, x = 0, has = 0, not = 0)")
            .rung("UNKNOWN", "UNKNOWN").when("x = -1 | 5 | MIN | MAX")
            .rung("OUTSIDE", "OUTSIDE").when("club = -1 | 4 | MIN | MAX").when("has = -1 | 16 | MIN | MAX")
            .when("not = -1 | 16 | MIN | MAX")
            .takes("has = 0 | 15, not = 0 | 15", "18").takes("club = 3, x = 4", "0").takes("club = 3, x = 2", "8").climb();
        b.of(12, "what it was (16 times the first set, and the second)");
        b.due(rich, "mean(1, 1, 15, 0) = 64", "mean(1, 1, 0, 15) = 240", "mean(1, 1, 15, 15) = 15", "mean(1, 1, 1, 2) = 255",
            "mean(1, 1, 0, 0) = 18", "mean(1, 1, 0, 0) = 0");
    }

    private void sentencesEver() {
        b.term("SENTENCES, 10 ever, numbered as they come: 1 to 4 clauses");
        Scene row = Scene.NEW.roots("a", "b").row(0, 2, ALL, 0, 1, SOME, 0, 1, NO, 0, 1, ALL, 1, 0, ALL, 0, 0);
        List<String> calls = new ArrayList<>();
        for (int k = 0; k < 10; k++) calls.add("sentence(0, 2, " + 3 * (k % 3) + ", " + (1 + k % 3) + ")");
        b.ever(row, 3, calls, "sentence(0, 2, 0, 1)");
        b.due(row.and(calls), "worlds(9, 0) = 969", "worlds(10, 0) = UNKNOWN", "worlds(1, 0) = 0", "worlds(2, 0) = 1");
        // Ten of four clauses each: none is mixed up with the next one.
        Scene most = Scene.NEW.roots("a").row(0, 2, ALL, 0, 0, ALL, 0, 0, ALL, 0, 0, ALL, 0, 0, SOME, 0, 0, NO, 0, 0, NO, 0, 0, NO, 0, 0);
        Scene turns = most.and("sentence(0, 2, 0, 4)", "sentence(0, 2, 12, 4)", "sentence(0, 2, 0, 4)", "sentence(0, 2, 9, 1)",
            "sentence(0, 2, 12, 1)", "sentence(0, 2, 15, 1)", "sentence(0, 2, 12, 4)").times(3, "sentence(0, 2, 0, 4)");
        b.due(turns, "worlds(0, 0) = 969", "worlds(1, 0) = 0", "worlds(2, 0) = 969", "worlds(3, 0) = 969", "worlds(4, 0) = 968",
            "worlds(5, 0) = 1", "worlds(6, 0) = 0", "worlds(7, 0) = 969", "worlds(9, 0) = 969", "differ(9, 0, 1) = NONE",
            "isTrue(9, 0, 968) = 1");
        b.due(row, "sentence(0, 2, 0, 0) = OUTSIDE", "sentence(0, 2, 0, 1) = 0", "sentence(0, 2, 0, 4) = 1",
            "sentence(0, 2, 0, 5) = OUTSIDE", "sentence(0, 2, 3, 4) = 2", "sentence(0, 2, 6, 3) = 3");
    }

    private void sorts() {
        b.term("0 all that are ROOT x are y, 1 some that is x is y, 2 none that is x is y");
        // x has FEATURE 0, y FEATURE 1: THINGS 1 are x alone, 2 y alone, 3 both, 0 neither.
        Scene three = Scene.NEW.roots("a", "b").and("mean(0, 0, 1, 0)", "mean(0, 1, 2, 0)").sentence(ALL, 0, 1).sentence(SOME, 0, 1)
            .sentence(NO, 0, 1);
        int[][] due = {{1, 0, 1}, {1, 0, 1}, {0, 0, 1}, {1, 0, 1}, {1, 1, 0}};
        for (int world = 0; world < 5; world++) for (int s = 0; s < 3; s++) {
            b.due(three, "isTrue(" + s + ", 0, " + world + ") = " + due[world][s]);
        }
        // Of two THINGS, one that is x and y beside one that is x alone (THINGS 1 and 3: WORLD 35).
        b.each(three, "world(35, 0) = 1", "world(35, 1) = 3", "isTrue(0, 0, 35) = 0", "isTrue(1, 0, 35) = 1", "isTrue(2, 0, 35) = 0");
        b.term("It is TRUE for a CLUB in a WORLD, if all clauses are, by its MEANINGS.");
        for (int at = 0; at < 4; at++) {
            int[] cells = {ALL, 0, 0, ALL, 0, 0, ALL, 0, 0, ALL, 0, 0};
            cells[3 * at + 2] = 1;
            Scene one = Scene.NEW.roots("a", "b").and("mean(2, 1, 1, 0)").sentence(cells);
            b.each(one, "isTrue(0, 2, 1) = 0", "isTrue(0, 2, 2) = 1", "isTrue(0, 1, 1) = 1", "isTrue(0, 2, 0) = 1");
        }
    }

    private void sentence() {
        int[] cells = new int[30];
        int[] first = {0, 0, 0, 0, 5, 1, 3, 0, 0, -1, 0, 0, 0, 0, -1, 2, 4, 4, 0, 0, 0};
        System.arraycopy(first, 0, cells, 0, first.length);
        Scene scene = rich.row(2, 2, cells);
        new Ladder(b, 13, scene, "sentence(sheet = 2, lane = 2, i = 0, n = 1)")
            .rung("UNKNOWN: SHEET", "UNKNOWN").when("sheet = -1 | 4 | MIN | MAX")
            .rung("OUTSIDE: lane", "OUTSIDE").when("lane = -1 | 3 | MIN | MAX")
            .rung("NULL", "NULL").when("sheet = 3")
            .rung("CAST", "CAST").when("lane = 0 | 1").when("sheet = 0 | 1")
            .rung("SIZE", "SIZE").when("n = -1 | MIN")
            // Three times the greater ones wrap to few cells, or to none.
            .rung("INDEX", "INDEX").when("i = -1 | 31 | MIN | MAX").when("n = 11 | MAX | 1431655766 | 715827883 | 1431655765 | 1073741824")
            .when("i = 28, n = 1").when("i = 1, n = 10").when("i = -1 | 31, n = 0")
            .rung("OUTSIDE: n is not 1 .. 4, a sort", "OUTSIDE").when("n = 0 | 5").when("i = 0, n = 10").when("i = 6 | 9")
            .when("i = 30, n = 0").when("i = 3, n = 2")
            .rung("UNKNOWN: a ROOT", "UNKNOWN").when("i = 3 | 12")
            .rung("FULL", "FULL").when("", Scene.NEW.times(8, "sentence(2, 2, 0, 1)"))
            .takes("i = 15, n = 1 | 4", "2").takes("i = 27", "2").takes("i = 18, n = 4", "2").climb();
        b.of(13, "UNKNOWN: a ROOT");
        int[][] wrong = {{ALL, 5, 0}, {ALL, 0, 5}, {ALL, -1, 0}, {ALL, 0, -1}, {ALL, 0, 0, NO, 0, 5},
            {ALL, 0, 0, ALL, 0, 0, ALL, 0, 0, SOME, 5, 0}, {ALL, Integer.MAX_VALUE, 0}, {ALL, 0, Integer.MIN_VALUE}};
        for (int[] row : wrong) b.due(rich.row(0, 2, row), "sentence(0, 2, 0, " + row.length / 3 + ") = UNKNOWN");
        b.due(rich.row(0, 2, ALL, 4, 4, SOME, 0, 4), "sentence(0, 2, 0, 2) = 2");
        b.of(13, "OUTSIDE: n is not 1 .. 4, a sort");
        for (int at = 0; at < 4; at++) {
            int[] row = new int[12];
            row[3 * at] = at % 2 == 0 ? 3 : -1;
            b.due(rich.row(0, 2, row), "sentence(0, 2, 0, 4) = OUTSIDE");
            // A sort that is none comes ahead of a ROOT that is none, wherever they stand.
            row[10 - 3 * at] = 99;
            b.due(rich.row(0, 2, row), "sentence(0, 2, 0, 4) = OUTSIDE");
        }
    }

    private void world() {
        new Ladder(b, 14, rich, "world(number = 5, k = 0)")
            .rung("OUTSIDE: WORLD, k is not 0 .. 2", "OUTSIDE").when("number = -1 | 969 | MIN | MAX").when("k = -1 | 3 | MIN | MAX")
            .takes("number = 968, k = 0 | 2", "15").takes("number = 0, k = 0 | 2", "NONE").climb();
        b.of(14, "A WORLD's k-th THING; NONE: it has fewer.");
        b.each(Scene.NEW, "world(0, 0) = NONE", "world(1, 0) = 0", "world(1, 1) = NONE", "world(16, 0) = 15", "world(16, 1) = NONE",
            "world(17, 1) = 0", "world(17, 2) = NONE", "world(152, 1) = 15", "world(152, 2) = NONE", "world(153, 2) = 0",
            "world(968, 2) = 15");
    }

    private void isTrue() {
        new Ladder(b, 15, rich, "isTrue(sentence = 0, club = 0, world = 0)")
            .rung("UNKNOWN", "UNKNOWN").when("sentence = -1 | 2 | MIN | MAX")
            .rung("OUTSIDE: CLUB, WORLD", "OUTSIDE").when("club = -1 | 4 | MIN | MAX").when("world = -1 | 969 | MIN | MAX")
            .takes("club = 0 | 3", "0").takes("sentence = 1", "0").climb();
        b.of(15, "1, 0");
        // In the empty WORLD all are, some is not, none is; in the last one all THINGS have all.
        Scene three = Scene.NEW.roots("a", "b").sentence(ALL, 0, 1).sentence(SOME, 0, 1).sentence(NO, 0, 1);
        b.each(three, "isTrue(0, 3, 0) = 1", "isTrue(1, 3, 0) = 0", "isTrue(2, 3, 0) = 1", "isTrue(0, 3, 968) = 1", "isTrue(1, 3, 968) = 1",
            "isTrue(2, 3, 968) = 0");
    }

    private void differ() {
        new Ladder(b, 16, rich, "differ(sentence = 0, club = 0, other = 1)")
            .rung("UNKNOWN", "UNKNOWN").when("sentence = -1 | 2 | MIN | MAX")
            .rung("OUTSIDE", "OUTSIDE").when("club = -1 | 4 | MIN | MAX").when("other = -1 | 4 | MIN | MAX")
            .takes("sentence = 1, club = 3, other = 3", "NONE").climb();
        b.of(16, "The least WORLD in which a SENTENCE is TRUE for a CLUB and not for another one (in this order); NONE.");
        Scene two = Scene.NEW.roots("a", "b").sentence(SOME, 0, 0).sentence(NO, 0, 0).and("mean(1, 0, 15, 0)");
        b.each(two, "differ(0, 0, 1) = 1", "differ(0, 1, 0) = NONE", "differ(1, 0, 1) = NONE", "differ(1, 1, 0) = 1",
            "differ(0, 0, 0) = NONE", "differ(0, 2, 3) = NONE", "differ(0, 0, 3) = NONE");
        // The last WORLD of one THING, then WORLDS of two THINGS and of three.
        b.due(Scene.NEW.roots("a").sentence(SOME, 0, 0).and("mean(0, 0, 15, 0)", "mean(1, 0, 0, 15)"), "differ(0, 0, 1) = 16",
            "differ(0, 1, 0) = 1");
        Scene three = Scene.NEW.roots("a", "b", "c").sentence(SOME, 0, 0, SOME, 1, 1).sentence(SOME, 0, 0, SOME, 1, 1, SOME, 2, 2);
        Scene apart = three.and("mean(0, 0, 15, 0)", "mean(0, 1, 7, 8)", "mean(0, 2, 11, 4)", "mean(1, 0, 1, 1)");
        b.each(apart, "differ(0, 0, 1) = 116", "world(116, 0) = 7", "world(116, 1) = 15", "differ(1, 0, 1) = 838", "world(838, 0) = 7",
            "world(838, 1) = 11", "world(838, 2) = 15");
    }

    private void worlds() {
        new Ladder(b, 17, rich, "worlds(sentence = 0, club = 0)")
            .rung("UNKNOWN", "UNKNOWN").when("sentence = -1 | 2 | MIN | MAX")
            .rung("OUTSIDE", "OUTSIDE").when("club = -1 | 4 | MIN | MAX")
            .climb();
        // From none to all.
        b.due(Scene.NEW.roots("a").sentence(SOME, 0, 0).sentence(ALL, 0, 0).sentence(NO, 0, 0).and("mean(3, 0, 1, 1)"), "worlds(0, 3) = 0",
            "worlds(1, 3) = 969", "worlds(2, 3) = 969", "worlds(0, 2) = 968", "worlds(2, 2) = 1");
    }
}
