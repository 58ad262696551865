import java.util.ArrayList;
import java.util.List;

/** What the document says at the boundaries of refusals, FAULTS, SHEETS, TELLING, TRACE and counts: promises 45 to 55. */
final class SheetsBounds {
    private final Bounds b;
    private final Scene rich = Scene.rich();

    SheetsBounds(Bounds bounds) {
        b = bounds;
    }

    void all() {
        lastCall();
        refusals();
        faults();
        none();
        rowsAndLanes();
        sheet();
        lose();
        put();
        cutting();
        cell();
        copy();
        copyAsTheyWere();
        telling();
        tell();
        say();
        as();
        trace();
        fault();
        many();
    }

    private void lastCall() {
        b.under(Document.WHAT, "An object is used for at most 512 calls after it has been made");
        // 511 MONTHS, and one call more.
        Play play = new Play();
        for (int k = 0; k < 511; k++) b.hold("month() answers 0", play.ask("month()") == 0);
        b.hold("the last call answers 511", play.ask("many(9)") == 511);
        Play told = new Play();
        int trace = 0;
        for (String call : Scene.NEW.root(2, 0, "a").calls()) told.ask(call);
        for (int k = Scene.NEW.root(2, 0, "a").calls().size(); k < 511; k++) {
            b.hold("say(0) answers 70", told.ask("say(0)") == 70);
            trace = 31 * trace + 5;
        }
        b.hold("the last call answers what it has come to", told.ask("trace()") == trace);
    }

    private void refusals() {
        b.term("REFUSALS: UNKNOWN (there is no such ROOT, ENDING, RULE, SENTENCE, PERSON, JOURNAL, BODY, PAIR, SESSION, POST, SHEET,"
            + " place), OUTSIDE (another number is not as told), STATE (as told), FULL");
        b.hold("UNKNOWN is -1", MadeTongue.UNKNOWN == -1);
        b.hold("OUTSIDE is -2", MadeTongue.OUTSIDE == -2);
        b.hold("STATE is -3", MadeTongue.STATE == -3);
        b.hold("FULL is -4", MadeTongue.FULL == -4);
        b.each(rich, "spread(5) = -1", "worlds(2, 0) = -1", "knows(6) = -1", "beyond(2) = -1", "table(3) = -1", "round(10) = -1",
            "lose(4) = -1", "two(12) = -1", "need(0) = -2", "pair(0, 1) = -3");
        b.due(Scene.NEW.persons(12), "person(0) = -4");
        b.term("They change nothing (but fault(), of a call that names FAULTS).");
        b.due(rich, "put(3, 0, 0) = NULL", "need(0) = OUTSIDE", "fault() = 1", "lose(4) = UNKNOWN", "fault() = 1", "put(4, 0, 0) = UNKNOWN",
            "fault() = 0");
    }

    private void faults() {
        b.term("FAULTS are the machine's: 1 NULL (there is nothing), 2 CAST (it is of another LANE, kind), 3 INDEX");
        b.due(rich, "put(3, 0, 0) = NULL", "fault() = 1", "copy(0, 0, 1, 0, 1) = CAST", "fault() = 2", "as(0, 1) = CAST", "fault() = 2",
            "put(0, 5, 0) = INDEX", "fault() = 3");
        b.term("(of cells from i on also where i is not 0 .. how many there are, if none of them is taken, too)");
        // SHEET 0 has five bytes, SHEET 1 three shorts.
        b.each(rich, "tongue(0, 0, 0, 0, 0, 0) = 0", "tongue(0, 0, 0, 0, 5, 0) = 0", "tongue(0, 0, 0, 0, 6, 0) = INDEX",
            "tongue(0, 0, 0, 0, -1, 0) = INDEX", "tongue(0, 0, 1, 1, 3, 0) = 0", "tongue(0, 0, 1, 1, 4, 0) = INDEX",
            "rule(0, 0, 0, 0, 0, 5, 0) = -100", "rule(0, 0, 0, 0, 0, 6, 0) = INDEX", "root(0, 0, 0, 0, 5, 0) = OUTSIDE",
            "root(0, 0, 0, 0, 6, 0) = INDEX", "ways(0, 0, 6, 0) = INDEX", "sentence(0, 0, 6, 0) = INDEX", "sentence(0, 0, 5, 0) = OUTSIDE",
            "copy(0, 5, 0, 5, 0) = 0", "copy(0, 6, 0, 5, 0) = INDEX", "copy(0, 5, 0, 6, 0) = INDEX",
            "reform(0, 0, 0, 0, 6, 0) = LOST INDEX", "reform(0, 0, 0, 0, 5, 0) = LOST", "ending(0, 0, 0, 0, -1, 0) = INDEX",
            "parse(0, 0, -1, 0, 0) = INDEX");
        Scene empty = rich.and("sheet(0, 0, 0)");
        b.each(empty, "tongue(0, 0, 0, 0, 0, 0) = 0", "tongue(0, 0, 0, 0, 1, 0) = INDEX", "tongue(0, 0, 0, 0, 0, 1) = INDEX",
            "rule(0, 0, 0, 0, 0, 0, 0) = -100", "copy(0, 0, 0, 0, 0) = 0", "copy(0, 0, 0, 0, 1) = INDEX", "put(0, 0, 0) = INDEX",
            "cell(0, 0, 0) = LOST INDEX");
        b.term("4 SIZE (a length below 0)");
        b.due(rich, "sheet(0, 0, -1) = SIZE", "fault() = 4", "ways(0, 0, 0, -1) = SIZE", "fault() = 4", "ways(0, 0, 0, 0) = OUTSIDE",
            "fault() = 0");
        b.term("Of a call the first that is come to, in the order told; it answers -10 less it (LOST, where a long is answered, as for"
            + " refusals) and changes nothing; fault() tells it.");
        b.each(rich, "put(3, 9, 0) = NULL", "as(0, 2) = CAST", "put(0, 9, 0) = INDEX", "sheet(0, 0, -1) = SIZE",
            "cell(3, 9, 0) = LOST NULL", "cell(0, 9, 1) = LOST CAST", "cell(0, 9, 0) = LOST INDEX", "reform(0, 0, 0, 0, 9, -1) = LOST SIZE",
            "cell(4, 0, 0) = LOST");
        b.hold("LOST is the least long", MadeTongue.LOST == Long.MIN_VALUE);
    }

    private void none() {
        b.term("NONE is -9.");
        b.hold("NONE is -9", MadeTongue.NONE == -9);
        b.each(rich, "ofRoot(1, 4) = -9", "why(2, 2) = -9", "two(11) = -9", "world(0, 0) = -9", "letter(0, 9) = -9", "fault() = 0");
    }

    private void rowsAndLanes() {
        b.term("SHEETS 0 .. 3 have nothing (at first), or a row of 0 .. 60 numbers (0 at first) of a LANE: 0 bytes, 1 shorts, 2 ints");
        for (int k = 0; k < 4; k++) for (int lane = 0; lane < 3; lane++) {
            String at = "(" + k + ", ";
            b.due(Scene.NEW, "put" + at + "0, 1) = NULL", "sheet" + at + lane + ", 60) = 1", "cell" + at + "0, " + lane + ") = 0",
                "cell" + at + "59, " + lane + ") = 0", "cell" + at + "60, " + lane + ") = LOST INDEX", "put" + at + "59, -7) = 1",
                "cell" + at + "59, " + lane + ") = -7", "put" + at + "60, 1) = INDEX", "sheet" + at + lane + ", 0) = 1",
                "put" + at + "0, 1) = INDEX", "sheet" + at + lane + ", 60) = 1", "cell" + at + "59, " + lane + ") = 0");
        }
        // Each SHEET has its own row: what comes to the last cell of one is in no other.
        Scene four = Scene.NEW.and("sheet(0, 2, 60)", "sheet(1, 2, 60)", "sheet(2, 2, 60)", "sheet(3, 2, 60)");
        for (int k = 0; k < 4; k++) for (int i : new int[] {0, 59}) {
            List<String> lines = new ArrayList<>(List.of("put(" + k + ", " + i + ", 5) = 1"));
            for (int other = 0; other < 4; other++) for (int j : new int[] {0, 1, 58, 59}) {
                lines.add("cell(" + other + ", " + j + ", 2) = " + (other == k && j == i ? 5 : 0));
            }
            b.due(four, lines.toArray(new String[0]));
        }
    }

    private void sheet() {
        new Ladder(b, 45, rich, "sheet(k = 2, lane = 1, n = 5)")
            .rung("UNKNOWN", "UNKNOWN").when("k = -1 | 4 | MIN | MAX")
            .rung("OUTSIDE: lane, n above 60", "OUTSIDE").when("lane = -1 | 3 | MIN | MAX").when("n = 61 | MAX")
            .rung("SIZE", "SIZE").when("n = -1 | MIN")
            .takes("k = 0 | 3, lane = 0 | 2, n = 0 | 60", "1").climb();
        b.of(45, "A SHEET gets a new row: 1.");
        b.due(rich, "cell(0, 4, 0) = 5", "sheet(0, 0, 5) = 1", "cell(0, 4, 0) = 0", "sheet(0, 1, 4) = 1", "cell(0, 3, 0) = LOST CAST",
            "cell(0, 3, 1) = 0", "cell(0, 4, 1) = LOST INDEX", "put(0, 3, 9) = 1", "sheet(0, 1, 3) = 1", "sheet(0, 1, 4) = 1",
            "cell(0, 3, 1) = 0");
    }

    private void lose() {
        new Ladder(b, 46, rich, "lose(k = 0)")
            .rung("UNKNOWN", "UNKNOWN").when("k = -1 | 4 | MIN | MAX")
            .takes("k = 0 | 2", "1").takes("k = 3", "0").climb();
        b.of(46, "1; 0: it had nothing");
        b.due(rich, "lose(0) = 1", "lose(0) = 0", "put(0, 0, 1) = NULL", "cell(0, 0, 0) = LOST NULL", "sheet(0, 0, 0) = 1", "lose(0) = 1",
            "lose(3) = 0");
    }

    private void put() {
        new Ladder(b, 47, rich, "put(k = 0, i = 0, v = 9)")
            .rung("UNKNOWN", "UNKNOWN").when("k = -1 | 4 | MIN | MAX")
            .rung("NULL", "NULL").when("k = 3")
            .rung("INDEX", "INDEX").when("i = -1 | 5 | 59 | MIN | MAX")
            .takes("i = 0 | 4", "1").takes("k = 2, i = 29", "1").takes("v = MIN | MAX", "1").climb();
        b.of(47, "Cell i of a SHEET becomes v: 1.");
        b.due(rich, "put(0, 4, 9) = 1", "cell(0, 4, 0) = 9", "cell(0, 3, 0) = -4", "put(0, 4, 9) = 1", "put(0, 0, 0) = 1",
            "cell(0, 0, 0) = 0");
    }

    private void cutting() {
        b.term("what comes to a cell of it is cut to its LANE");
        int[] values = {0, 1, -1, 127, 128, -128, -129, 255, 256, 257, 32767, 32768, -32768, -32769, 65535, 65536, 65537, Integer.MAX_VALUE,
            Integer.MIN_VALUE};
        Scene three = Scene.NEW.and("sheet(0, 0, 1)", "sheet(1, 1, 1)", "sheet(2, 2, 1)");
        for (int v : values) {
            b.due(three, "put(0, 0, " + v + ") = 1", "cell(0, 0, 0) = " + (byte) v, "put(1, 0, " + v + ") = 1",
                "cell(1, 0, 1) = " + (short) v, "put(2, 0, " + v + ") = 1", "cell(2, 0, 2) = " + v);
        }
        // What is cut is taken as it is then: as a LETTER, a code, a sort.
        Scene cut = rich.row(0, 0, 256 + 26, 256 + 'n', 256 + '+', 256 + 'v').row(1, 1, 65536 + 1, 65536, 65536 + 4);
        b.each(cut, "root(0, 0, 0, 0, 0, 1) = 5", "rule(0, 0, 0, 0, 0, 1, 3) = 3", "sentence(1, 1, 0, 1) = 2", "ways(0, 0, 0, 1) = 0");
        b.each(rich.row(0, 2, 256 + 26, 256 + 'n', 256 + '+', 256 + 'v'), "root(0, 0, 0, 2, 0, 1) = OUTSIDE",
            "rule(0, 0, 0, 0, 2, 1, 3) = -100");
    }

    private void cell() {
        new Ladder(b, 48, rich, "cell(k = 0, i = 0, lane = 0)")
            .rung("LOST: UNKNOWN", "LOST").when("k = -1 | 4 | MIN | MAX")
            .rung("OUTSIDE: lane", "LOST").when("lane = -1 | 3 | MIN | MAX")
            .rung("NULL", "LOST NULL").when("k = 3")
            .rung("FAULTS CAST (nothing is no CAST)", "LOST CAST").when("lane = 1 | 2").when("k = 1 | 2")
            .rung("INDEX", "LOST INDEX").when("i = -1 | 5 | 59 | MIN | MAX")
            .takes("i = 4", "5").takes("i = 3", "-4").takes("k = 2, lane = 2", "2").climb();
        b.each(rich, "cell(3, 0, 0) = LOST NULL", "cell(3, 0, 1) = LOST NULL", "cell(3, 0, 2) = LOST NULL");
    }

    private void copy() {
        Scene same = rich.row(1, 0, 7, 8, 9);
        new Ladder(b, 49, same, "copy(k = 0, i = 1, other = 1, j = 0, n = 2)")
            .rung("UNKNOWN", "UNKNOWN").when("k = -1 | 4 | MIN | MAX").when("other = -1 | 4 | MIN | MAX")
            .rung("FAULTS NULL (the first, the other)", "NULL").when("k = 3").when("other = 3").when("k = 3, other = 3")
            .rung("CAST (unlike LANES)", "CAST").when("k = 2").when("other = 2")
            .rung("INDEX: i, j, n below 0 or beyond", "INDEX").when("i = -1 | 4 | 6 | MIN | MAX").when("j = -1 | 2 | 4 | MIN | MAX")
            .when("n = -1 | 4 | MIN | MAX").when("i = -1 | 6, n = 0").when("j = -1 | 4, n = 0").when("n = 3, j = 1").when("n = 4, i = 2")
            .takes("n = 0", "0").takes("n = 3", "3").takes("i = 3", "2").takes("j = 1", "2").takes("i = 5, j = 3, n = 0", "0").climb();
        b.each(same, "copy(0, MAX, 1, 0, MAX) = INDEX", "copy(0, 0, 1, MAX, MAX) = INDEX", "copy(0, 1, 1, 1, MAX) = INDEX",
            "copy(0, MIN, 1, MIN, MIN) = INDEX");
        // Nothing comes ahead of all numbers, SHEETS that are none ahead of nothing.
        b.each(rich, "copy(3, -1, 3, -1, -1) = NULL", "copy(3, 0, 4, 0, 0) = UNKNOWN", "copy(2, -1, 0, -1, -1) = CAST",
            "copy(2, 0, 0, 0, 0) = CAST");
    }

    private void copyAsTheyWere() {
        b.of(49, "n cells of a SHEET from i on go to another one (perhaps the same) from j on, as they were: n.");
        Scene row = Scene.NEW.row(0, 1, 1, 2, 3, 4, 5);
        copied(row, "copy(0, 0, 0, 1, 4) = 4", 1, 1, 2, 3, 4);
        copied(row, "copy(0, 1, 0, 0, 4) = 4", 2, 3, 4, 5, 5);
        copied(row, "copy(0, 0, 0, 0, 5) = 5", 1, 2, 3, 4, 5);
        copied(row, "copy(0, 4, 0, 0, 1) = 1", 5, 2, 3, 4, 5);
        copied(row, "copy(0, 0, 0, 4, 1) = 1", 1, 2, 3, 4, 1);
        copied(row, "copy(0, 5, 0, 5, 0) = 0", 1, 2, 3, 4, 5);
        Scene both = row.row(3, 1, -1, -2);
        b.due(both, "copy(0, 3, 3, 0, 2) = 2", "cell(3, 0, 1) = 4", "cell(3, 1, 1) = 5", "cell(0, 3, 1) = 4", "copy(0, 0, 3, 1, 1) = 1",
            "cell(3, 1, 1) = 1", "cell(3, 0, 1) = 4");
    }

    private void copied(Scene row, String line, int... due) {
        List<String> lines = new ArrayList<>(List.of(line));
        for (int i = 0; i < due.length; i++) lines.add("cell(0, " + i + ", 1) = " + due[i]);
        b.due(row, lines.toArray(new String[0]));
    }

    private void telling() {
        b.term("(an int that wraps, 0 at first, becomes 31 times it and the number) as they begin: ROOT (1): how many LETTERS it has. LOAN"
            + " (2): what ROOT's gives, and its CLASS and 10. BLEND (3): what LOAN's gives, and what ROOT's gives (LOAN's left out). SAID"
            + " by a lent body (4): its number; BLENDS have their own (5): 70.");
        Scene short0 = Scene.NEW.root(0, 3, "a").root(1, 0, "b").root(2, 0, "c");
        b.each(short0, "trace() = 0", "tell(0) = 1", "tell(1) = 11", "tell(2) = 12", "say(0) = 0", "say(1) = 1", "say(2) = 70");
        Scene long0 = Scene.NEW.root(0, 3, "abcd").root(1, 3, "bcde").root(2, 3, "cdef");
        b.each(long0, "tell(0) = 4", "tell(1) = 17", "tell(2) = 21");
        b.due(short0, "tell(0) = 1", "trace() = 1");
        b.due(short0, "tell(1) = 11", "trace() = 63");
        b.due(short0, "tell(2) = 12", "trace() = " + (((3 * 31 + 2) * 31 + 1) * 31 + 1));
        b.due(short0, "say(0) = 0", "trace() = 4", "say(1) = 1", "trace() = 128");
        b.due(short0, "say(2) = 70", "trace() = 5");
    }

    private void tell() {
        new Ladder(b, 50, rich, "tell(x = 0)")
            .rung("UNKNOWN", "UNKNOWN").when("x = -1 | 5 | MIN | MAX")
            .takes("x = 0", "2").takes("x = 4", "18").climb();
    }

    private void say() {
        new Ladder(b, 51, rich, "say(x = 0)")
            .rung("UNKNOWN", "UNKNOWN").when("x = -1 | 5 | MIN | MAX")
            .takes("x = 3", "3").takes("x = 4", "70").climb();
    }

    private void as() {
        new Ladder(b, 52, rich, "as(x = 1, kind = 1)")
            .rung("UNKNOWN", "UNKNOWN").when("x = -1 | 5 | MIN | MAX")
            .rung("OUTSIDE", "OUTSIDE").when("kind = -1 | 3 | MIN | MAX")
            .rung("CAST: it is none", "CAST").when("kind = 2").when("x = 0 | 3")
            .takes("kind = 0 | 1", "1").takes("x = 4, kind = 2", "1").climb();
        b.of(52, "A ROOT, taken as one of a kind: 1.");
        b.due(rich, "as(0, 1) = CAST", "as(0, 0) = 1", "fault() = 0", "as(0, 2) = CAST", "as(2, 2) = 1", "fault() = 0");
    }

    private void trace() {
        b.of(53, "TRACE.");
        // By 5 again and again it goes beyond the greatest int, and wraps.
        Scene one = Scene.NEW.root(2, 0, "a");
        List<String> lines = new ArrayList<>();
        int due = 0;
        long plain = 0;
        boolean wrapped = false;
        for (int k = 0; k < 12; k++) {
            due = 31 * due + 5;
            plain = 31 * plain + 5;
            wrapped |= plain != due;
            lines.add("say(0) = 70");
            lines.add("trace() = " + due);
        }
        b.hold("it wraps here", wrapped);
        b.due(one, lines.toArray(new String[0]));
        b.due(one, "tell(1) = UNKNOWN", "say(1) = UNKNOWN", "trace() = 0");
    }

    private void fault() {
        b.of(54, "The FAULT of the latest call that names one: 0: it came to none, or was refused (0 ahead of any).");
        b.due(Scene.NEW, "fault() = 0", "fault() = 0", "put(0, 0, 0) = NULL", "fault() = 1", "fault() = 1", "lose(0) = 0", "trace() = 0",
            "fault() = 1", "sheet(0, 0, 1) = 1", "fault() = 0");
        // Behind each call that names FAULTS; what each of the others leaves is looked at wherever one is asked for.
        b.due(rich, "put(3, 0, 0) = NULL", "root(0, 0, 4, 0, 0, 1) = UNKNOWN", "fault() = 0", "put(3, 0, 0) = NULL",
            "root(0, 0, 2, 2, 4, 1) = 5", "fault() = 0", "put(3, 0, 0) = NULL", "rule(0, 0, 0, 2, 2, 4, 1) = -100", "fault() = 0",
            "put(3, 0, 0) = NULL", "parse(2, 2, 4, 1, 20) = UNKNOWN", "fault() = 0", "put(3, 0, 0) = NULL", "cell(0, 0, 0) = 1",
            "fault() = 0", "cell(3, 0, 0) = LOST NULL", "fault() = 1", "cell(4, 0, 0) = LOST", "fault() = 0");
    }

    private void many() {
        new Ladder(b, 55, rich, "many(what = 0)")
            .rung("OUTSIDE", "OUTSIDE").when("what = -1 | 11 | MIN | MAX")
            .climb();
        b.of(55, "How many: 0 ROOTS, 1 ENDINGS, 2 RULES, 3 SENTENCES, 4 PERSONS, 5 JOURNALS, 6 BODIES, 7 PAIRS, 8 SESSIONS, 9 MONTHS, 10"
            + " ROADS.");
        int[] due = {5, 2, 3, 2, 6, 2, 2, 1, 3, 2, 5};
        for (int what = 0; what < due.length; what++) b.due(rich, "many(" + what + ") = " + due[what]);
        // At their most, each by calls of its own.
        b.due(Scene.NEW.persons(12), "many(4) = 12", "person(0) = FULL", "many(4) = 12");
        b.due(Scene.NEW.times(20, "month()"), "many(9) = 20");
    }
}
