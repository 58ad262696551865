import java.util.ArrayList;
import java.util.List;

/** What the document says at the boundaries of PERSONS, TONGUES, REFORMS, JOURNALS and MONTHS: promises 18 to 28. */
final class PersonsBounds {
    private final Bounds b;
    private final Scene rich = Scene.rich();

    PersonsBounds(Bounds bounds) {
        b = bounds;
    }

    void all() {
        personsEver();
        person();
        wordsOfTongues();
        tongue();
        changes();
        easy();
        learn();
        knowsAndSpread();
        reformWords();
        reform();
        journalsEver();
        journal();
        need();
        hearing();
        becomingKnown();
        forgetting();
        asTheMonthBegan();
        month();
        heard();
    }

    private static List<String> copies(int count, String call) {
        return java.util.Collections.nCopies(count, call);
    }

    private void personsEver() {
        b.term("PERSONS, 12 ever, numbered as they come, each with a FIRST tongue (0 .. 3).");
        List<String> calls = new ArrayList<>();
        for (int p = 0; p < 12; p++) calls.add("person(" + p % 4 + ")");
        b.ever(Scene.NEW, 4, calls, "person(0)");
        b.due(Scene.NEW.and(calls), "knows(11) = 0", "knows(12) = UNKNOWN");
        // Each learns by the FIRST it came with.
        Scene words = Scene.NEW.roots("abc").tongue(1, 0, "abc").tongue(2, 0, "abd").tongue(3, 0, "a").and(calls);
        int[] due = {4, 1, 2, 3};
        for (int p = 0; p < 12; p++) b.due(words, "easy(" + p + ", 0) = " + due[p % 4]);
    }

    private void person() {
        new Ladder(b, 18, rich, "person(first = 0)")
            .rung("OUTSIDE", "OUTSIDE").when("first = -1 | 4 | MIN | MAX")
            .rung("FULL", "FULL").when("", Scene.NEW.persons(6))
            .takes("first = 0 | 3", "6").climb();
    }

    private void wordsOfTongues() {
        b.term("TONGUES have a word for a ROOT: a row of 0 to 4 LETTERS (none at first).");
        Scene two = Scene.NEW.roots("abcd", "b").and("person(0)", "person(3)").word(0, 2, "abcdx");
        b.each(two, "easy(0, 0) = 5", "easy(1, 0) = 5", "easy(0, 1) = 2");
        b.due(two, "tongue(0, 0, 0, 2, 0, 0) = 0", "easy(0, 0) = 5", "tongue(0, 0, 0, 2, 0, 4) = 4", "easy(0, 0) = 1", "easy(1, 0) = 5",
            "easy(0, 1) = 2", "tongue(0, 0, 0, 2, 0, 5) = OUTSIDE", "easy(0, 0) = 1", "tongue(0, 0, 0, 2, 0, 1) = 1", "easy(0, 0) = 4",
            "tongue(0, 0, 0, 2, 5, 0) = 0", "easy(0, 0) = 5", "tongue(3, 1, 0, 2, 1, 1) = 1", "easy(1, 1) = 1", "easy(0, 1) = 2");
        // A word may be there ahead of any PERSON that has it.
        b.due(Scene.NEW.roots("abcd").tongue(2, 0, "abcd"), "person(2) = 0", "easy(0, 0) = 1");
    }

    private void tongue() {
        new Ladder(b, 19, rich, "tongue(t = 0, x = 0, sheet = 2, lane = 2, i = 4, n = 1)")
            .rung("UNKNOWN: ROOT, SHEET", "UNKNOWN").when("x = -1 | 5 | MIN | MAX").when("sheet = -1 | 4 | MIN | MAX")
            .rung("OUTSIDE: tongue, lane", "OUTSIDE").when("t = -1 | 4 | MIN | MAX").when("lane = -1 | 3 | MIN | MAX")
            .rung("NULL", "NULL").when("sheet = 3")
            .rung("CAST", "CAST").when("lane = 0 | 1").when("sheet = 0 | 1")
            .rung("SIZE", "SIZE").when("n = -1 | MIN")
            .rung("INDEX", "INDEX").when("i = -1 | 31 | MIN | MAX").when("n = 31 | MAX").when("i = 30, n = 1").when("i = 29, n = 2")
            .when("i = -1 | 31, n = 0").when("i = 1 | MAX, n = MAX")
            .rung("OUTSIDE: n above 4, a LETTER", "OUTSIDE").when("n = 5 | 26").when("i = 1 | 2 | 3")
            .takes("t = 0 | 3, x = 0 | 4", "1").takes("n = 0", "0").takes("n = 4", "4").takes("i = 29", "1").takes("i = 30, n = 0", "0")
            .takes("i = 1, n = 0", "0").climb();
    }

    private void changes() {
        b.term("MONTHS to learn a ROOT: one, and the fewest changes from the word of one's FIRST to its LETTERS: a LETTER put in, left out,"
            + " changed for another one each count one.");
        String[][] rows = {{"abcd", "abcd", "1"}, {"abcd", "", "5"}, {"abcd", "abc", "2"}, {"abcd", "bcd", "2"}, {"abcd", "acd", "2"},
            {"abcd", "abxd", "2"},
            {"abcd", "xbcd", "2"}, {"abcd", "wxyz", "5"}, {"abcd", "dcba", "5"}, {"abcd", "bcda", "3"}, {"abcd", "dabc", "3"}, {"abcd",
            "badc", "4"},
            {"a", "a", "1"}, {"a", "b", "2"}, {"a", "", "2"}, {"a", "aa", "2"}, {"a", "bbbb", "5"}, {"a", "bbba", "4"}, {"ab", "ba", "3"},
            {"aab", "aba", "3"},
            {"zz", "zazb", "3"}, {"abab", "baba", "3"}};
        for (String[] row : rows) b.due(Scene.NEW.roots(row[0]).tongue(0, 0, row[1]).and("person(0)"), "easy(0, 0) = " + row[2]);
    }

    private void easy() {
        new Ladder(b, 20, rich, "easy(p = 0, x = 0)")
            .rung("UNKNOWN", "UNKNOWN").when("p = -1 | 6 | MIN | MAX").when("x = -1 | 5 | MIN | MAX")
            .takes("p = 5, x = 3", "2").takes("p = 5, x = 4", "5").takes("p = 0, x = 0", "2").climb();
        b.each(rich, "easy(6, 5) = UNKNOWN", "easy(-1, -1) = UNKNOWN");
    }

    private void learn() {
        new Ladder(b, 21, rich, "learn(p = 2, x = 0, is = true)")
            .rung("UNKNOWN", "UNKNOWN").when("p = -1 | 6 | MIN | MAX").when("x = -1 | 5 | MIN | MAX")
            .takes("p = 5, x = 4", "1").takes("p = 0, x = 0", "0").climb();
        b.each(rich, "learn(6, 0, false) = UNKNOWN", "learn(0, 5, false) = UNKNOWN", "learn(2, 0, false) = 0", "learn(0, 0, false) = 1");
        b.of(21, "1; 0: it was so (nothing changes)");
        b.due(rich, "heard(1, 0) = 2", "learn(1, 0, false) = 0", "heard(1, 0) = 2", "learn(1, 0, true) = 1", "knows(1) = 9",
            "learn(1, 0, true) = 0", "knows(1) = 9", "learn(1, 0, false) = 1", "knows(1) = 8", "learn(1, 0, false) = 0");
        // To know it once more is no hearing: it is forgotten all the same.
        Scene five = Scene.NEW.roots("a").persons(1).and("learn(0, 0, true)").times(5, "month()");
        b.due(five, "learn(0, 0, true) = 0", "month() = 1000");
        b.of(21, "(It has heard it 0 times then; one that comes to know it counts as having heard it in the latest MONTH.)");
        b.due(rich, "learn(1, 0, true) = 1", "heard(1, 0) = 0", "learn(1, 0, false) = 1", "heard(1, 0) = 0", "month() = 5",
            "heard(1, 0) = 1");
        b.due(five.and("learn(0, 0, false)", "learn(0, 0, true)"), "month() = 0", "month() = 0", "month() = 0", "month() = 0",
            "month() = 0", "month() = 1000");
    }

    private void knowsAndSpread() {
        b.term("A PERSON knows ROOTS (none at first).");
        b.due(Scene.NEW.roots("a").persons(1), "knows(0) = 0", "spread(0) = 0");
        new Ladder(b, 22, rich, "knows(p = 0)")
            .rung("UNKNOWN", "UNKNOWN").when("p = -1 | 6 | MIN | MAX")
            .takes("p = 0", "3").takes("p = 5", "4").climb();
        new Ladder(b, 28, rich, "spread(x = 0)")
            .rung("UNKNOWN", "UNKNOWN").when("x = -1 | 5 | MIN | MAX")
            .takes("x = 0", "1").takes("x = 4", "0").climb();
        b.term("Sets are told as bits (bit k for number k).");
        Scene full = rich.and(WordsBounds.elevenRoots()).persons(6);
        b.due(full, "learn(11, 15, true) = 1", "knows(11) = 32768", "spread(15) = 2048", "learn(11, 0, true) = 1", "knows(11) = 32769",
            "learn(0, 15, true) = 1", "spread(15) = 2049", "knows(0) = 32771", "spread(0) = 2049");
    }

    private void reformWords() {
        b.term("A REFORM of a ROOT (1 to 4 other LETTERS; nothing is done)");
        Scene two = Scene.NEW.roots("ab", "b").tongue(0, 0, "a").persons(2).and("learn(0, 0, true)").word(0, 2, "abxyz");
        // MONTHS are 2 as it is; to a 1, to abxy 4.
        b.each(two, "reform(0, 0, 0, 2, 0, 1) = 1", "reform(0, 1, 0, 2, 0, 1) = 1", "reform(0, 0, 0, 2, 0, 2) = 0",
            "reform(0, 1, 0, 2, 0, 4) = 4", "reform(0, 0, 0, 2, 0, 4) = -2", "reform(0, 0, 0, 2, 0, 5) = LOST",
            "reform(0, 0, 0, 2, 0, 0) = LOST");
        b.due(two, "reform(0, 0, 0, 2, 0, 4) = -2", "ofRoot(0, 2) = 2", "easy(1, 0) = 2", "knows(0) = 1", "reform(0, 0, 0, 2, 0, 4) = -2");
    }

    private void reform() {
        new Ladder(b, 23, rich, "reform(x = 0, what = 1, sheet = 2, lane = 2, i = 4, n = 1)")
            .rung("LOST: UNKNOWN: ROOT, SHEET", "LOST").when("x = -1 | 5 | MIN | MAX").when("sheet = -1 | 4 | MIN | MAX")
            .rung("OUTSIDE: lane, what", "LOST").when("lane = -1 | 3 | MIN | MAX").when("what = -1 | 2 | MIN | MAX")
            .rung("NULL", "LOST NULL").when("sheet = 3")
            .rung("FAULTS CAST", "LOST CAST").when("lane = 0 | 1").when("sheet = 0 | 1")
            .rung("SIZE", "LOST SIZE").when("n = -1 | MIN")
            .rung("INDEX", "LOST INDEX").when("i = -1 | 31 | MIN | MAX").when("n = 31 | MAX").when("i = 30, n = 1").when("i = 29, n = 2")
            .when("i = -1 | 31, n = 0").when("i = 1 | MAX, n = MAX")
            .rung("OUTSIDE: n is not 1 .. 4, a LETTER", "LOST").when("n = 0 | 5 | 26").when("i = 1 | 2 | 3").when("i = 30, n = 0")
            .takes("what = 1", "4").takes("n = 4", "5").takes("i = 29", "4").takes("x = 4", "0").climb();
        b.of(23, "SAVED (what 0; it may be below 0), COST (1)");
        Scene one = Scene.NEW.roots("abcd").tongue(0, 0, "abcd").word(0, 2, "wxyz").persons(12);
        b.due(one, "reform(0, 0, 0, 2, 0, 4) = -48", "reform(0, 1, 0, 2, 0, 4) = 0", "learn(11, 0, true) = 1",
            "reform(0, 0, 0, 2, 0, 4) = -44", "reform(0, 1, 0, 2, 0, 4) = 5");
        b.due(Scene.NEW.roots("abcd").word(0, 2, "a"), "reform(0, 0, 0, 2, 0, 1) = 0", "reform(0, 1, 0, 2, 0, 1) = 0");
        b.due(Scene.NEW.roots("abcd").word(0, 2, "a").persons(12), "reform(0, 0, 0, 2, 0, 1) = 36");
    }

    private void journalsEver() {
        b.term("JOURNALS, 6 ever, numbered as they come: a set of PERSONS who write in it, a set who read it.");
        List<String> calls = new ArrayList<>();
        for (int k = 0; k < 6; k++) calls.add("journal(" + k + ", " + (5 - k) + ")");
        b.ever(Scene.NEW.persons(3), 5, calls, "journal(0, 0)");
        // The last one is read as the first is.
        b.due(Scene.NEW.roots("a").persons(2).and("learn(0, 0, true)").times(5, "journal(0, 3)").and("journal(1, 2)"), "month() = 0",
            "heard(1, 0) = 1");
        b.due(Scene.NEW.roots("a").persons(2).and("learn(0, 0, true)").times(6, "journal(1, 2)").and("need(7)"), "month() = 0",
            "heard(1, 0) = 6");
    }

    private void journal() {
        new Ladder(b, 24, rich, "journal(writers = 1, readers = 2)")
            .rung("OUTSIDE: a bit of no PERSON", "OUTSIDE").when("writers = 64 | 65 | -1 | 4096 | MIN | MAX")
            .when("readers = 64 | 65 | -1 | 4096 | MIN | MAX")
            .rung("FULL", "FULL").when("", Scene.NEW.times(4, "journal(0, 0)"))
            .takes("writers = 0 | 63, readers = 0 | 63", "2").climb();
        b.each(Scene.NEW, "journal(0, 0) = 0", "journal(1, 0) = OUTSIDE", "journal(0, 1) = OUTSIDE", "journal(MIN, MIN) = OUTSIDE");
        b.each(rich.persons(6), "journal(4095, 4095) = 2", "journal(4096, 0) = OUTSIDE", "journal(0, 4096) = OUTSIDE",
            "journal(8191, 1) = OUTSIDE");
    }

    private void need() {
        b.term("NEED (1 .. 9; 2 at first)");
        Scene told = Scene.NEW.roots("a").persons(2).and("learn(0, 0, true)", "journal(1, 2)");
        b.due(told, "month() = 0", "month() = 1");
        for (int n = 1; n <= 9; n++) {
            List<String> lines = new ArrayList<>();
            lines.add("need(" + n + ") = 2");
            for (int k = 1; k <= n; k++) lines.add("month() = " + (k == n ? 1 : 0));
            b.due(told, lines.toArray(new String[0]));
        }
        new Ladder(b, 25, rich, "need(n = 5)")
            .rung("OUTSIDE", "OUTSIDE").when("n = 0 | 10 | -1 | MIN | MAX")
            .takes("n = 1 | 9", "3").climb();
        b.due(rich, "need(1) = 3", "need(9) = 1", "need(9) = 9", "need(2) = 9");
    }

    private void hearing() {
        b.term("A MONTH: for each JOURNAL, each ROOT that some PERSON who writes in it knows: all who read it hear it once more (in this"
            + " MONTH).");
        Scene three = Scene.NEW.roots("a", "b").persons(4).and("learn(0, 0, true)", "learn(1, 0, true)", "need(9)");
        // Two writers that know it are one hearing; two JOURNALS are two; no writer, no reader is none.
        b.due(three.and("journal(3, 12)"), "month() = 0", "heard(2, 0) = 1", "heard(3, 0) = 1", "heard(2, 1) = 0");
        b.due(three.and("journal(1, 4)", "journal(2, 4)"), "month() = 0", "heard(2, 0) = 2", "heard(3, 0) = 0");
        b.due(three.and("journal(0, 4)", "journal(1, 0)", "journal(8, 4)"), "month() = 0", "heard(2, 0) = 0");
        b.due(three.and("journal(4, 4)", "journal(1, 1)"), "month() = 0", "heard(2, 0) = 0", "heard(0, 0) = 0");
    }

    private void becomingKnown() {
        b.term("Behind it each who heard a ROOT as often as NEED");
        Scene told = Scene.NEW.roots("a").persons(2).and("learn(0, 0, true)", "journal(1, 2)", "need(3)");
        b.due(told, "month() = 0", "month() = 0", "heard(1, 0) = 2", "knows(1) = 0", "month() = 1", "knows(1) = 1", "heard(1, 0) = 0");
        b.term("or more, all MONTHS together since it knew it not, knows it");
        // More than NEED at once; and months without it between.
        b.due(Scene.NEW.roots("a").persons(2).and("learn(0, 0, true)").times(6, "journal(1, 2)"), "month() = 1", "knows(1) = 1");
        b.due(told, "month() = 0", "month() = 0", "learn(0, 0, false) = 1", "month() = 0", "month() = 0", "month() = 0", "month() = 0",
            "month() = 0", "month() = 0", "month() = 0", "heard(1, 0) = 2", "learn(0, 0, true) = 1", "month() = 1", "knows(1) = 1");
        // What was heard ahead of knowing it counts no more.
        b.due(told.times(2, "month()"), "learn(1, 0, true) = 1", "learn(1, 0, false) = 1", "month() = 0", "month() = 0", "heard(1, 0) = 2",
            "month() = 1");
        b.due(told.and("need(9)").times(4, "month()"), "need(4) = 9", "knows(1) = 0", "learn(0, 0, false) = 1", "month() = 1",
            "knows(1) = 1");
    }

    private void forgetting() {
        b.term("each who knows a ROOT and has not heard it for six MONTHS, this one the last, and writes in no JOURNAL, knows it no more"
            + " (and has heard it 0 times then).");
        Scene one = Scene.NEW.roots("a").persons(2).and("learn(0, 0, true)");
        b.due(one.times(4, "month()"), "month() = 0", "knows(0) = 1", "month() = 1000", "knows(0) = 0", "heard(0, 0) = 0", "month() = 0");
        // Heard in the first month of six it stays one month longer, whoever told it.
        b.due(one.and("learn(1, 0, true)", "journal(2, 1)", "month()", "learn(1, 0, false)").times(5, "month()"), "knows(0) = 1",
            "month() = 1000");
        b.due(one.and("learn(1, 0, true)", "journal(2, 1)").times(20, "month()"), "knows(0) = 1", "knows(1) = 1");
        // Heard in the last of six it stays, and six more are needed.
        b.due(one.times(5, "month()").and("learn(1, 0, true)", "journal(2, 1)"), "month() = 0", "knows(0) = 1", "learn(1, 0, false) = 1",
            "month() = 0", "month() = 0", "month() = 0", "month() = 0", "month() = 0", "month() = 1000", "knows(0) = 0");
        // Who writes, if none reads it and in whatever JOURNAL, forgets nothing; one who reads alone does.
        b.due(one.and("journal(0, 1)", "journal(1, 0)").times(12, "month()"), "knows(0) = 1");
        b.due(one.and("journal(2, 1)").times(5, "month()"), "month() = 1000");
        b.due(one.times(5, "month()").and("journal(1, 0)"), "month() = 0", "knows(0) = 1");
        b.term("(One that comes to know it counts as having heard it in that MONTH.");
        // It comes to know it in a MONTH in which it does not hear it, for NEED is less by then.
        Scene late = Scene.NEW.roots("a").persons(2).and("learn(0, 0, true)", "journal(1, 2)", "need(9)", "month()", "learn(0, 0, false)");
        b.due(late.times(3, "month()").and("need(1)"), "month() = 1", "month() = 0", "month() = 0", "month() = 0", "month() = 0",
            "month() = 0", "month() = 1000", "heard(1, 0) = 0");
    }

    private void asTheMonthBegan() {
        b.term("All hear by what was known as the MONTH began.)");
        Scene chain = Scene.NEW.roots("a").persons(3).and("learn(0, 0, true)", "need(1)");
        for (String journals : new String[] {"journal(1, 2);journal(2, 4)", "journal(2, 4);journal(1, 2)"}) {
            b.due(chain.and(journals.split(";")), "month() = 1", "heard(2, 0) = 0", "spread(0) = 3", "month() = 1", "spread(0) = 7");
        }
        // One that knows it no more behind the MONTH has told it in it.
        Scene last = chain.and("learn(2, 0, true)").times(5, "month()").and("journal(1, 2)");
        b.due(last, "month() = 1001", "spread(0) = 3");
    }

    private void month() {
        b.of(26, "A MONTH: how many came to know a ROOT, and 1000 times how many know one no more.");
        b.due(Scene.NEW, "month() = 0", "many(9) = 1");
        Scene all = Scene.NEW.word(3, 2, "abcdefghijklmnop");
        for (int x = 0; x < 16; x++) all = all.and("root(0, 0, 3, 2, " + x + ", 1)", "learn(0, " + x + ", true)");
        // The most that may come at once, and go.
        Scene most = Scene.NEW.persons(12).and(all.and("need(1)", "journal(1, 4094)"));
        b.due(most, "month() = 176", "knows(11) = 65535", "month() = 0");
        Scene gone = Scene.NEW.persons(12).and(all.and("need(1)"));
        b.due(gone.times(5, "month()"), "month() = 16000", "knows(0) = 0");
        Scene both = Scene.NEW.roots("a", "b").persons(3).and("need(1)", "learn(0, 0, true)").times(5, "month()").and("learn(1, 1, true)",
            "journal(2, 5)");
        b.due(both, "month() = 1002", "knows(0) = 2", "knows(2) = 2");
    }

    private void heard() {
        new Ladder(b, 27, rich, "heard(p = 2, x = 0)")
            .rung("UNKNOWN", "UNKNOWN").when("p = -1 | 6 | MIN | MAX").when("x = -1 | 5 | MIN | MAX")
            .takes("p = 2, x = 0", "2").takes("p = 5, x = 4", "0").climb();
        b.of(27, "(of one that knows it: 0)");
        b.due(rich, "heard(0, 0) = 0", "heard(3, 3) = 2", "month() = 6", "heard(3, 3) = 0", "spread(3) = 11", "heard(5, 2) = 0");
    }
}
