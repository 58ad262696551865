import java.util.ArrayList;
import java.util.List;

/** What the document says at the boundaries of BODIES, LETTERS WRITTEN, PARTED, PAIRS and KEPT: promises 29 to 37. */
final class BodiesBounds {
    private final Bounds b;
    private final Scene rich = Scene.rich();

    BodiesBounds(Bounds bounds) {
        b = bounds;
    }

    void all() {
        bodiesEver();
        body();
        passing();
        vote();
        beyondAndSeats();
        letters();
        parted();
        part();
        uses();
        pairsEver();
        pair();
        kept();
        apart();
        keep();
    }

    private void bodiesEver() {
        b.term("BODIES, 4 ever, numbered as they come: a set of PERSONS, of acts it may do (0 add, 1 change, 2 join, as bits), SHARE (1 .."
            + " 10).");
        List<String> calls = new ArrayList<>();
        for (int k = 0; k < 4; k++) calls.add("body(" + (k + 1) + ", " + k + ", " + (k + 1) + ")");
        b.ever(Scene.NEW.persons(3), 6, calls, "body(1, 1, 1)");
        for (int acts = 0; acts < 8; acts++) {
            Scene one = Scene.NEW.persons(1).and("body(1, " + acts + ", 10)");
            for (int act = 0; act < 3; act++) b.due(one, "vote(0, " + act + ", 1) = " + ((acts >> act & 1) != 0 ? 1 : 3));
        }
    }

    private void body() {
        new Ladder(b, 29, rich, "body(persons = 1, acts = 0, share = 1)")
            .rung("OUTSIDE: a bit of no PERSON, no PERSON, acts, share", "OUTSIDE").when("persons = 64 | 65 | -1 | 4096 | MIN | MAX")
            .when("persons = 0").when("acts = -1 | 8 | MIN | MAX").when("share = 0 | 11 | -1 | MIN | MAX")
            .rung("FULL", "FULL").when("", Scene.NEW.times(2, "body(1, 0, 1)"))
            .takes("persons = 1 | 32 | 63, acts = 0 | 7, share = 1 | 10", "2").climb();
        b.each(Scene.NEW, "body(0, 0, 1) = OUTSIDE", "body(1, 0, 1) = OUTSIDE");
        b.each(rich.persons(6), "body(4095, 0, 1) = 2", "body(2048, 0, 1) = 2", "body(4096, 0, 1) = OUTSIDE");
    }

    private void passing() {
        b.term("A VOTE passes, if ten times those for it are SHARE times its PERSONS or more");
        for (int persons : new int[] {1, 3, 7, 10, 12}) for (int share = 1; share <= 10; share++) {
            Scene one = Scene.NEW.persons(persons).and("body(" + ((1 << persons) - 1) + ", 7, " + share + ")");
            for (int count = 0; count <= persons; count++) {
                // From the top, for who they are is no matter.
                int yes = (1 << persons) - 1 - ((1 << persons - count) - 1);
                b.answers(one, "vote(0, 0, " + yes + ")", 10 * count >= share * persons ? "1" : "0");
            }
        }
        b.term("one on an act it may not do is BEYOND");
        b.due(Scene.NEW.persons(2).and("body(3, 2, 5)"), "vote(0, 0, 1) = 3", "vote(0, 0, 0) = 2", "vote(0, 1, 1) = 1", "vote(0, 1, 0) = 0",
            "vote(0, 2, 1) = 3", "beyond(0) = 3");
    }

    private void vote() {
        new Ladder(b, 30, rich, "vote(b = 1, act = 1, yes = 60)")
            .rung("UNKNOWN", "UNKNOWN").when("b = -1 | 2 | MIN | MAX")
            .rung("OUTSIDE: act is not 0 .. 2, a bit of none of its PERSONS", "OUTSIDE").when("act = -1 | 3 | 32 | MIN | MAX")
            .when("yes = 1 | 2 | 61 | 64 | 124 | -1 | MIN | MAX")
            .takes("act = 1", "1").takes("act = 0 | 2", "3").takes("yes = 0", "0").takes("yes = 56", "0").climb();
        b.of(30, "1 it passes, 0 it does not; BEYOND: 3, 2");
        b.each(rich, "vote(0, 0, 7) = 1", "vote(0, 0, 3) = 1", "vote(0, 0, 1) = 0", "vote(0, 1, 3) = 3", "vote(0, 1, 1) = 2",
            "vote(0, 2, 3) = 1", "vote(0, 2, 0) = 0");
    }

    private void beyondAndSeats() {
        new Ladder(b, 31, rich, "beyond(b = 0)")
            .rung("UNKNOWN", "UNKNOWN").when("b = -1 | 2 | MIN | MAX")
            .takes("b = 0", "1").takes("b = 1", "0").climb();
        b.due(rich, "vote(0, 1, 8) = OUTSIDE", "beyond(0) = 1", "vote(0, 0, 7) = 1", "beyond(0) = 1", "vote(0, 1, 0) = 2", "beyond(0) = 2",
            "beyond(1) = 0");
        b.of(32, "PERSONS who are in two BODIES or more, as a set.");
        b.due(Scene.NEW, "seats() = 0");
        b.due(Scene.NEW.persons(12), "body(4095, 0, 1) = 0", "seats() = 0", "body(2049, 0, 1) = 1", "seats() = 2049", "body(2, 0, 1) = 2",
            "seats() = 2051", "body(4095, 0, 1) = 3", "seats() = 4095");
    }

    private void letters() {
        b.term("LETTERS WRITTEN between two PERSONS: 0 .. 99, 0 at first.");
        b.due(Scene.NEW.persons(12), "letters(0, 11, 99) = 0", "letters(11, 0, 0) = 99", "letters(0, 11, 1) = 0", "letters(10, 11, 5) = 0",
            "letters(0, 10, 5) = 0");
        new Ladder(b, 33, rich, "letters(p = 0, q = 1, v = 9)")
            .rung("UNKNOWN", "UNKNOWN").when("p = -1 | 6 | MIN | MAX").when("q = -1 | 6 | MIN | MAX")
            .rung("OUTSIDE: v, both are one", "OUTSIDE").when("v = -1 | 100 | MIN | MAX").when("q = 0").when("p = 1")
            .takes("v = 0 | 99", "5").takes("p = 1, q = 0", "5").takes("p = 5", "0").takes("q = 5", "0").climb();
        b.each(rich, "letters(6, 6, 9) = UNKNOWN", "letters(-1, -1, 9) = UNKNOWN", "letters(5, 5, 9) = OUTSIDE",
            "letters(5, 5, 100) = OUTSIDE");
    }

    private void parted() {
        b.term("PARTED by two leaders: the sets of PERSONS, one with each leader, so that the sum of LETTERS WRITTEN between them is least;"
            + " of several the one in which the first leader's set is the least as a number.");
        Scene two = Scene.NEW.persons(2).and("letters(0, 1, 99)");
        b.due(two, "part(0, 1, 0) = 1", "part(0, 1, 1) = 99", "part(1, 0, 0) = 2", "part(1, 0, 1) = 99");
        // Who writes to none goes with the second leader, and so does who writes as much to both.
        Scene three = Scene.NEW.persons(3);
        b.due(three, "part(0, 1, 0) = 1", "part(0, 2, 0) = 1", "part(2, 0, 0) = 4", "part(2, 0, 1) = 0");
        b.due(three.and("letters(0, 2, 5)", "letters(1, 2, 5)"), "part(0, 1, 0) = 1", "part(0, 1, 1) = 5", "part(1, 0, 0) = 2");
        b.due(three.and("letters(0, 2, 6)", "letters(1, 2, 5)"), "part(0, 1, 0) = 5", "part(0, 1, 1) = 5", "part(1, 0, 0) = 2");
        b.due(three.and("letters(0, 2, 4)", "letters(1, 2, 5)"), "part(0, 1, 0) = 1", "part(0, 1, 1) = 4", "part(1, 0, 0) = 6");
        // All twelve, all write to all.
        Scene all = Scene.NEW.persons(12);
        for (int p = 0; p < 12; p++) for (int q = 0; q < p; q++) all = all.and("letters(" + p + ", " + q + ", 99)");
        b.due(all, "part(0, 11, 0) = 1", "part(0, 11, 1) = 1089", "part(11, 0, 0) = 2048", "part(11, 0, 1) = 1089");
        // One that all write to but one leader: all go with the other.
        Scene star = Scene.NEW.persons(12);
        for (int p = 1; p < 12; p++) star = star.and("letters(0, " + p + ", 9)");
        b.due(star, "part(0, 11, 0) = 2047", "part(0, 11, 1) = 9", "part(11, 0, 0) = 2048", "part(5, 6, 0) = 32", "part(5, 6, 1) = 9");
    }

    private void part() {
        new Ladder(b, 34, rich, "part(p = 0, q = 2, what = 0)")
            .rung("UNKNOWN", "UNKNOWN").when("p = -1 | 6 | MIN | MAX").when("q = -1 | 6 | MIN | MAX")
            .rung("OUTSIDE: what, both are one", "OUTSIDE").when("what = -1 | 2 | MIN | MAX").when("q = 0").when("p = 2")
            .takes("what = 0", "1").takes("what = 1", "5").takes("p = 5", "32").takes("q = 5, what = 1", "0").climb();
        b.each(rich, "part(6, 6, 0) = UNKNOWN", "part(-1, -1, 5) = UNKNOWN", "part(5, 5, 5) = OUTSIDE");
        b.of(34, "the first one's set (what 0), the sum between (1)");
        b.due(rich, "part(3, 4, 0) = 8", "part(3, 4, 1) = 9", "part(2, 0, 0) = 6", "part(2, 0, 1) = 5", "part(3, 0, 0) = 24",
            "part(3, 0, 1) = 0");
    }

    private void uses() {
        b.term("USES (0 .. 999, 0 at first) of each ROOT");
        b.due(Scene.NEW.roots("a", "b"), "ofRoot(0, 3) = 0", "uses(0, 999) = 0", "ofRoot(0, 3) = 999", "ofRoot(1, 3) = 0",
            "uses(0, 0) = 999", "uses(0, 1) = 0");
        new Ladder(b, 35, rich, "uses(x = 0, v = 5)")
            .rung("UNKNOWN", "UNKNOWN").when("x = -1 | 5 | MIN | MAX")
            .rung("OUTSIDE", "OUTSIDE").when("v = -1 | 1000 | MIN | MAX")
            .takes("v = 0 | 999", "10").takes("x = 4", "0").climb();
    }

    private static Scene sixteenRoots() {
        Scene all = Scene.NEW.word(3, 2, "aaaabbbbccccddddeeeeffffgggghhhhiiiikkkk");
        for (int k = 0; k < 10; k++) all = all.and("root(0, 0, 3, 2, " + 4 * k + ", 4)");
        for (int k = 0; k < 6; k++) all = all.and("root(0, 0, 3, 2, " + 4 * k + ", 2)");
        return all;
    }

    private void pairsEver() {
        b.term("PAIRS, 8 ever, numbered as they come, of ROOTS x, y that mean the same (each in one PAIR at most)");
        List<String> lines = new ArrayList<>();
        for (int k = 0; k < 8; k++) lines.add("pair(" + k + ", " + (15 - k) + ") = " + k);
        lines.add("many(7) = 8");
        // All sixteen ROOTS are in a PAIR then, so that STATE comes ahead of FULL.
        lines.add("pair(0, 1) = STATE");
        lines.add("pair(15, 0) = STATE");
        for (int x = 0; x < 16; x++) lines.add("ofRoot(" + x + ", 4) = " + Math.min(x, 15 - x));
        b.due(sixteenRoots(), lines.toArray(new String[0]));
    }

    private void pair() {
        new Ladder(b, 36, rich, "pair(x = 1, y = 2)")
            .rung("UNKNOWN", "UNKNOWN").when("x = -1 | 5 | MIN | MAX").when("y = -1 | 5 | MIN | MAX")
            .rung("OUTSIDE: both are one", "OUTSIDE").when("x = 2, y = 2").when("x = 1, y = 1").when("x = 0, y = 0")
            .rung("STATE: one is in a PAIR", "STATE").when("x = 0 | 3").when("y = 0 | 3").when("x = 0, y = 3").when("x = 3, y = 0")
            .takes("y = 4", "1").takes("x = 4", "1").climb();
        b.each(rich, "pair(5, 5) = UNKNOWN", "pair(5, 0) = UNKNOWN", "pair(0, 0) = OUTSIDE", "pair(3, 3) = OUTSIDE");
        b.of(36, "FULL");
        // There is no ninth: each needs two ROOTS that are in none, and sixteen are all.
        Scene eight = sixteenRoots();
        for (int k = 0; k < 8; k++) eight = eight.and("pair(" + 2 * k + ", " + (2 * k + 1) + ")");
        for (int x = 0; x < 16; x++) b.due(eight, "pair(" + x + ", " + (x + 1) % 16 + ") = STATE");
    }

    private void kept() {
        b.term("KEPT: of each PAIR x (bit 0), or y (1)");
        Scene two = Scene.NEW.roots("aaaa", "bbbb", "cccc", "dddd").and("pair(0, 1)", "pair(2, 3)");
        String[] used = {"", "uses(1, 1)", "uses(3, 1)", "uses(1, 1);uses(3, 1)"};
        for (int bits = 0; bits < 4; bits++) {
            Scene one = used[bits].isEmpty() ? two : two.and(used[bits].split(";"));
            b.due(one, "keep(0) = " + bits, "keep(1) = 0");
        }
        b.term("the sum of USES of those that are not KEPT and of MONTHS of the KEPT ones, over PERSONS that do not know them, is least;"
            + " of several the least as a number.");
        b.due(two.and("uses(0, 999)", "uses(1, 999)", "uses(2, 999)", "uses(3, 999)"), "keep(0) = 0", "keep(1) = 1998",
            "uses(3, 998) = 999", "keep(0) = 0", "keep(1) = 1997", "uses(1, 998) = 999", "uses(0, 997) = 999", "keep(0) = 1",
            "keep(1) = 1995");
        // MONTHS are 5 for each of two PERSONS; one that knows y makes it the better one by 5.
        Scene learned = two.persons(2).and("learn(0, 1, true)");
        b.due(learned, "keep(1) = 15", "keep(0) = 1", "uses(0, 5) = 0", "keep(0) = 0", "keep(1) = 20", "uses(0, 4) = 5", "keep(0) = 1",
            "keep(1) = 19");
        b.due(two.persons(12), "keep(0) = 0", "keep(1) = 120");
        // USES of a ROOT in no PAIR do not count.
        b.due(two.roots("eeee").and("uses(4, 999)"), "keep(0) = 0", "keep(1) = 0");
    }

    private void apart() {
        b.term("so that no two KEPT ones are just one change apart");
        String[][] rows = {{"ab", "abc", "1"}, {"ab", "b", "1"}, {"ab", "cb", "1"}, {"abcd", "abcx", "1"}, {"abcd", "acd", "1"}, {"a", "b",
            "1"}, {"ab", "ba", "0"},
            {"ab", "abcd", "0"}, {"a", "bc", "0"}, {"abcd", "abdc", "0"}, {"abcd", "bcda", "0"}, {"a", "abcd", "0"}};
        for (String[] row : rows) {
            Scene four = Scene.NEW.roots(row[0], "yyyy", row[1], "zzzz").and("uses(0, 9)", "uses(2, 9)");
            boolean near = row[2].equals("1");
            // Whichever came first, as a ROOT or as a PAIR.
            for (String pairs : new String[] {"pair(0, 1);pair(2, 3)", "pair(2, 3);pair(0, 1)"}) {
                b.due(four.and(pairs.split(";")), "keep(0) = " + (near ? 1 : 0), "keep(1) = " + (near ? 9 : 0));
            }
        }
        // The two of one PAIR are never both KEPT.
        b.due(Scene.NEW.roots("a", "b").and("pair(0, 1)"), "keep(0) = 0", "keep(1) = 0");
        // The first PAIR and the last of eight.
        Scene eight = sixteenRoots();
        for (int k = 0; k < 8; k++) eight = eight.and("pair(" + k + ", " + (15 - k) + ")");
        b.due(eight, "keep(0) = 0", "keep(1) = 0", "uses(15, 9) = 0", "uses(8, 9) = 0", "keep(0) = 129");
    }

    private void keep() {
        new Ladder(b, 37, rich, "keep(what = 0)")
            .rung("OUTSIDE", "OUTSIDE").when("what = -1 | 2 | MIN | MAX")
            .climb();
        b.of(37, "the bits (what 0), the sum (1); NONE: there is no way.");
        b.due(Scene.NEW, "keep(0) = 0", "keep(1) = 0");
        Scene none = Scene.NEW.roots("a", "b", "c", "d").and("pair(0, 1)", "pair(2, 3)");
        b.due(none, "keep(0) = NONE", "keep(1) = NONE");
        // One way is left, the last one.
        b.due(Scene.NEW.roots("a", "bbbb", "b", "cccc").and("pair(0, 1)", "pair(2, 3)", "uses(0, 9)", "uses(2, 9)"), "keep(0) = 1",
            "keep(1) = 9");
        b.due(Scene.NEW.roots("a", "bb", "c", "dd").and("pair(0, 1)", "pair(2, 3)"), "keep(0) = 1", "keep(1) = 0");
        b.due(Scene.NEW.roots("a", "bbb", "ab", "bbbb", "b", "cc").and("pair(0, 1)", "pair(2, 3)", "pair(4, 5)"), "keep(0) = 5");
    }
}
