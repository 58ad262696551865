import java.util.ArrayList;
import java.util.List;

/** What the document says at the boundaries of ROOTS, ENDINGS, RULES, WAYS and TWO: promises 1 to 11. */
final class WordsBounds {
    private final Bounds b;
    private final Scene rich = Scene.rich();

    WordsBounds(Bounds bounds) {
        b = bounds;
    }

    void all() {
        newObject();
        letters();
        classes();
        rootsEver();
        kinds();
        rootRows();
        root();
        endingsEver();
        ending();
        ofRoot();
        rulesEver();
        clubsAndYears();
        texts();
        firstFaults();
        tellers();
        rule();
        theStand();
        stand();
        mayAndWhy();
        partsOfWays();
        waysInOrder();
        ways();
        howManyWays();
        parse();
        partsOfTwo();
        leastOfTwo();
        two();
    }

    /** SHEET 0 with such LETTERS, and all of it taken apart. */
    private static String waysOf(int size) {
        return "ways(0, 2, 0, " + size + ")";
    }

    private void newObject() {
        b.of(1, "No ROOTS, ENDINGS, RULES, SENTENCES, PERSONS, JOURNALS, BODIES, PAIRS, SESSIONS, ROADS, SHEETS.");
        for (int what = 0; what <= 10; what++) b.due(Scene.NEW, "many(" + what + ") = 0");
        for (int k = 0; k < 4; k++) b.due(Scene.NEW, "put(" + k + ", 0, 0) = NULL", "lose(" + k + ") = 0");
        for (int both = 0; both < 16; both++) {
            String classes = "(" + both / 4 + ", " + both % 4 + ")";
            b.due(Scene.NEW, "may" + classes + " = 0", "why" + classes + " = NONE");
        }
        b.each(Scene.NEW, "ofRoot(0, 0) = UNKNOWN", "worlds(0, 0) = UNKNOWN", "knows(0) = UNKNOWN", "beyond(0) = UNKNOWN",
            "table(0) = UNKNOWN", "why(0, 0) = NONE", "two(-1) = NONE", "keep(0) = 0", "table(-1) = 0", "round(0) = 1");
    }

    private void letters() {
        b.term("LETTERS 1 .. 26.");
        Scene edges = rich.row(0, 2, 1, 26, 0, 27, -1, Integer.MIN_VALUE, Integer.MAX_VALUE);
        b.each(edges, "root(0, 0, 0, 2, 0, 1) = 5", "root(0, 0, 0, 2, 1, 1) = 5", "ending(0, 0, 0, 2, 0, 2) = 2", "ways(0, 2, 0, 2) = 0",
            "parse(0, 2, 0, 2, 0) = NONE", "tongue(0, 0, 0, 2, 0, 2) = 2", "reform(3, 1, 0, 2, 0, 2) = 2");
        for (int i = 2; i < 7; i++) {
            b.each(edges, "root(0, 0, 0, 2, " + i + ", 1) = OUTSIDE", "ending(0, 0, 0, 2, " + i + ", 1) = OUTSIDE",
                "ways(0, 2, " + i + ", 1) = OUTSIDE", "parse(0, 2, " + i + ", 1, 0) = OUTSIDE",
                "tongue(0, 0, 0, 2, " + i + ", 1) = OUTSIDE", "reform(0, 0, 0, 2, " + i + ", 1) = LOST");
        }
        // One that is no LETTER is enough, wherever it stands.
        for (int at = 0; at < 4; at++) {
            int[] row = {1, 2, 3, 4};
            row[at] = 27;
            Scene one = rich.row(0, 2, row);
            b.each(one, "root(0, 0, 0, 2, 0, 4) = OUTSIDE", "tongue(0, 0, 0, 2, 0, 4) = OUTSIDE", "reform(0, 0, 0, 2, 0, 4) = LOST",
                "ways(0, 2, 0, 4) = OUTSIDE", "parse(0, 2, 0, 4, 0) = OUTSIDE");
            if (at < 2) b.due(one, "ending(0, 0, 0, 2, 0, 2) = OUTSIDE");
        }
        int[] twenty = Scene.lettersOf("a".repeat(20));
        twenty[19] = 0;
        b.due(rich.row(0, 2, twenty), "ways(0, 2, 0, 20) = OUTSIDE", "ways(0, 2, 0, 19) = 0");
    }

    private void classes() {
        b.term("CLASSES 0 n, 1 v, 2 a, 3 o.");
        String[] texts = {"n", "v", "a", "o"};
        for (int x = 0; x < 4; x++) for (int y = 0; y < 4; y++) {
            Scene one = Scene.NEW.rule(-1, 0, 0, texts[x] + "+" + texts[y]);
            for (int other = 0; other < 16; other++) {
                boolean told = other == 4 * x + y;
                String both = "(" + other / 4 + ", " + other % 4 + ")";
                b.due(one, "may" + both + " = " + (told ? 1 : 0), "why" + both + " = " + (told ? "0" : "NONE"));
            }
        }
    }

    private static List<String> rootCalls(int count) {
        List<String> calls = new ArrayList<>();
        for (int k = 0; k < count; k++) calls.add("root(" + k % 3 + ", " + k % 4 + ", 0, 2, " + k + ", 1)");
        return calls;
    }

    private void rootsEver() {
        b.term("ROOTS, 16 ever, numbered as they come");
        Scene abc = Scene.NEW.word(0, 2, "abcdefghijklmnopqrstuvwxyz");
        b.ever(abc, 0, rootCalls(16), "root(0, 0, 0, 2, 16, 1)");
        b.due(abc.and(rootCalls(16)), "ofRoot(15, 5) = 16", "ofRoot(16, 5) = UNKNOWN", "ofRoot(0, 5) = 1");
        // An ENDING is no ROOT: one of the same LETTERS is not alike, also where there is no room.
        b.due(abc.and("ending(0, 0, 0, 2, 16, 1)").and(rootCalls(16)), "root(0, 0, 0, 2, 16, 1) = FULL", "root(0, 0, 0, 2, 15, 1) = STATE");
        b.due(abc.and("ending(0, 0, 0, 2, 0, 1)"), "root(0, 0, 0, 2, 0, 1) = 0", "ending(0, 0, 0, 2, 0, 1) = 1");
        // One that is refused takes no number.
        b.due(abc, "root(0, 0, 0, 2, 0, 1) = 0", "root(0, 0, 0, 2, 0, 1) = STATE", "root(0, 4, 0, 2, 1, 1) = OUTSIDE",
            "root(0, 0, 0, 2, 1, 1) = 1");
    }

    private void kinds() {
        b.term("of a kind: 0 ROOT; 1 LOAN, a ROOT; 2 BLEND, a LOAN");
        Scene three = Scene.NEW.root(0, 0, "a").root(1, 0, "b").root(2, 0, "c");
        b.each(three, "ofRoot(0, 0) = 0", "ofRoot(1, 0) = 1", "ofRoot(2, 0) = 2", "as(0, 0) = 1", "as(0, 1) = CAST", "as(0, 2) = CAST",
            "as(1, 0) = 1", "as(1, 1) = 1", "as(1, 2) = CAST", "as(2, 0) = 1", "as(2, 1) = 1", "as(2, 2) = 1");
    }

    private void rootRows() {
        b.term("a row of 1 to 4 LETTERS, no two alike");
        Scene row = Scene.NEW.word(0, 2, "ababcabcd");
        b.due(row, "root(0, 0, 0, 2, 0, 0) = OUTSIDE", "root(0, 0, 0, 2, 0, 1) = 0", "root(0, 0, 0, 2, 0, 4) = 1",
            "root(0, 0, 0, 2, 0, 5) = OUTSIDE", "root(0, 0, 0, 2, 0, 2) = 2", "root(0, 0, 0, 2, 0, 3) = 3");
        // Alike is the same row of LETTERS: not one that begins so, not one turned round.
        b.due(row, "root(0, 0, 0, 2, 0, 2) = 0", "root(0, 0, 0, 2, 2, 2) = STATE", "root(1, 0, 0, 2, 2, 2) = STATE",
            "root(0, 3, 0, 2, 5, 2) = STATE", "root(0, 0, 0, 2, 2, 3) = 1", "root(0, 0, 0, 2, 5, 3) = STATE", "root(0, 0, 0, 2, 5, 4) = 2",
            "root(0, 0, 0, 2, 1, 2) = 3", "root(0, 0, 0, 2, 2, 1) = 4", "root(0, 0, 0, 2, 0, 1) = STATE");
    }

    /** The FAULTS of n cells of SHEET 2, which has thirty; CAST is told behind NULL, for nothing is no CAST. */
    private static Ladder cells(Ladder ladder, String castWords, String sizeWords) {
        return ladder
            .rung("NULL", "NULL").when("sheet = 3")
            .rung(castWords, "CAST").when("lane = 0 | 1").when("sheet = 0 | 1")
            .rung(sizeWords, "SIZE").when("n = -1 | MIN")
            .rung("INDEX", "INDEX").when("i = -1 | 31 | MIN | MAX").when("n = 31 | MAX").when("i = 30, n = 1").when("i = 29, n = 2")
            .when("i = 31 | -1, n = 0").when("i = 0, n = 31").when("i = 1 | MAX, n = MAX");
    }

    private void root() {
        Ladder ladder = new Ladder(b, 2, rich, "root(kind = 0, cls = 0, sheet = 2, lane = 2, i = 4, n = 1)");
        ladder
            .rung("UNKNOWN: SHEET", "UNKNOWN").when("sheet = -1 | 4 | MIN | MAX")
            .rung("OUTSIDE: kind, cls, lane", "OUTSIDE").when("kind = -1 | 3 | MIN | MAX").when("cls = -1 | 4 | MIN | MAX")
            .when("lane = -1 | 3 | MIN | MAX");
        cells(ladder, "CAST (nothing is no CAST)", "SIZE: n below 0")
            .rung("OUTSIDE: n is not 1 .. 4, a LETTER", "OUTSIDE").when("n = 0 | 5 | 26").when("i = 1 | 2 | 3").when("i = 30, n = 0")
            .rung("STATE: there is one alike", "STATE").when("i = 0")
            .rung("FULL", "FULL").when("", elevenRoots())
            .takes("kind = 0 | 1 | 2, cls = 0 | 3", "5").takes("n = 1 | 4", "5").takes("i = 29", "5").takes("i = 26, n = 4", "5").climb();
        // CAST is not of nothing, whatever the LANE.
        b.each(rich, "root(0, 0, 3, 0, 0, 1) = NULL", "root(0, 0, 3, 1, 0, 1) = NULL", "root(0, 0, 0, 0, 2, 1) = 5",
            "root(0, 0, 1, 1, 0, 1) = 5");
    }

    /** As many as Scene.rich() leaves room for. */
    static Scene elevenRoots() {
        Scene more = Scene.NEW.word(3, 2, "cdefghijklm");
        for (int k = 0; k < 11; k++) more = more.and("root(0, 0, 3, 2, " + k + ", 1)");
        return more.and("lose(3)");
    }

    private void endingsEver() {
        b.term("ENDINGS, 8 ever, numbered as they come: a row of 1 or 2 LETTERS, from a CLASS to a CLASS.");
        Scene row = Scene.NEW.word(0, 2, "abc");
        List<String> calls = new ArrayList<>();
        for (int k = 0; k < 8; k++) calls.add("ending(" + k % 4 + ", " + (3 - k % 4) + ", 0, 2, 0, " + (1 + k % 2) + ")");
        b.ever(row, 1, calls, "ending(0, 0, 0, 2, 1, 1)");
        b.due(row, "ending(0, 0, 0, 2, 0, 0) = OUTSIDE", "ending(0, 0, 0, 2, 0, 1) = 0", "ending(0, 0, 0, 2, 0, 2) = 1",
            "ending(0, 0, 0, 2, 0, 3) = OUTSIDE", "ending(0, 0, 0, 2, 0, 2) = 2");
        for (int from = 0; from < 4; from++) for (int to = 0; to < 4; to++) {
            // Behind a ROOT of one CLASS an ENDING from it, and behind that one from the CLASS it goes to.
            Scene one = Scene.NEW.root(0, from, "a").ending(from, to, "b").ending(to, to, "c").word(0, 2, "abc");
            b.due(one, waysOf(3) + " = 1", waysOf(2) + " = 1", "parse(0, 2, 0, 3, 1) = 100");
        }
        b.due(Scene.NEW.root(0, 1, "a").ending(0, 1, "b").ending(2, 1, "b").ending(3, 1, "b").word(0, 2, "ab"), waysOf(2) + " = 0");
    }

    private void ending() {
        Ladder ladder = new Ladder(b, 3, rich, "ending(from = 0, to = 0, sheet = 2, lane = 2, i = 4, n = 1)");
        ladder
            .rung("UNKNOWN", "UNKNOWN").when("sheet = -1 | 4 | MIN | MAX")
            .rung("OUTSIDE: from, to, lane", "OUTSIDE").when("from = -1 | 4 | MIN | MAX").when("to = -1 | 4 | MIN | MAX")
            .when("lane = -1 | 3 | MIN | MAX");
        cells(ladder, "CAST", "SIZE")
            .rung("OUTSIDE: n is not 1, 2, a LETTER", "OUTSIDE").when("n = 0 | 3 | 26").when("i = 1 | 2 | 3")
            .rung("FULL", "FULL").when("", Scene.NEW.times(6, "ending(0, 0, 2, 2, 4, 1)"))
            .takes("from = 0 | 3, to = 0 | 3", "2").takes("n = 1 | 2", "2").takes("i = 29", "2").climb();
    }

    private void ofRoot() {
        new Ladder(b, 4, rich, "ofRoot(x = 0, what = 0)")
            .rung("UNKNOWN", "UNKNOWN").when("x = -1 | 5 | MIN | MAX")
            .rung("OUTSIDE", "OUTSIDE").when("what = -1 | 7 | 9 | MIN | MAX")
            .takes("x = 4", "2").climb();
        b.of(4, "Of a ROOT: 0 kind, 1 CLASS, 2 how many LETTERS, 3 USES, 4 its PAIR (NONE), 5 and k: its k-th LETTER.");
        b.each(rich, "ofRoot(0, 0) = 0", "ofRoot(0, 1) = 0", "ofRoot(0, 2) = 2", "ofRoot(0, 3) = 10", "ofRoot(0, 4) = 0",
            "ofRoot(0, 5) = 1", "ofRoot(0, 6) = 2", "ofRoot(0, 7) = OUTSIDE", "ofRoot(1, 4) = NONE", "ofRoot(3, 4) = 0", "ofRoot(2, 5) = 2",
            "ofRoot(2, 6) = OUTSIDE", "ofRoot(4, 8) = 26", "ofRoot(4, 9) = OUTSIDE", "ofRoot(4, 7) = 1", "ofRoot(4, 1) = 0");
    }

    private static List<String> ruleCalls(int count) {
        List<String> calls = new ArrayList<>();
        for (int k = 0; k < count; k++) calls.add("rule(" + (k % 5 - 1) + ", 0, 999, 0, 2, 0, 3)");
        return calls;
    }

    private void rulesEver() {
        b.term("RULES, 10 ever, numbered as they come");
        Scene text = Scene.NEW.text(0, 2, "n+n");
        b.ever(text, 2, ruleCalls(10), "rule(-1, 0, 999, 0, 2, 0, 3)");
        b.due(text.and(ruleCalls(10)), "why(0, 0) = 6", "stand(3, 0) = 1", "why(0, 0) = 9", "may(0, 0) = 1");
        // One that has a FIRST FAULT takes no number.
        b.due(text, "rule(0, 0, 0, 0, 2, 0, 2) = -102", "rule(0, 0, 0, 0, 2, 0, 3) = 0", "why(0, 0) = 0");
    }

    private void clubsAndYears() {
        b.term("of a CLUB (0 .. 3; -1: of all)");
        for (int club = -1; club < 4; club++) {
            Scene one = Scene.NEW.rule(club, 0, 999, "n+n");
            for (int at = 0; at < 4; at++) b.due(one.and("stand(" + at + ", 1)"), "may(0, 0) = " + (club == -1 || club == at ? 1 : 0));
        }
        b.term("in force from a YEAR to a YEAR (0 .. 999)");
        int[][] spans = {{0, 0}, {0, 999}, {999, 999}, {5, 5}, {5, 7}, {998, 999}, {0, 1}};
        for (int[] span : spans) {
            Scene one = Scene.NEW.rule(-1, span[0], span[1], "n+n");
            for (int year : new int[] {span[0] - 1, span[0], span[1], span[1] + 1}) {
                if (year < 0 || year > 999) continue;
                boolean in = span[0] <= year && year <= span[1];
                b.due(one.and("stand(3, " + year + ")"), "may(0, 0) = " + (in ? 1 : 0), "why(0, 0) = " + (in ? "0" : "NONE"));
            }
        }
    }

    /** A TEXT alone on SHEET 0, and what rule() answers. */
    private void read(String text, String answer) {
        b.due(rich.text(0, 2, text), "rule(-1, 0, 999, 0, 2, 0, " + text.length() + ") = " + answer);
    }

    private void texts() {
        b.term("one to four clauses with , between: perhaps !, a CLASS's letter, the sign +, a CLASS's letter.");
        String[] texts = {"n+n", "!v+a", "n+n,v+v", "a+a,!a+o,o+a", "!n+n,!v+v,!a+a,!o+o", "n+v,v+a,a+o,o+n"};
        for (String text : texts) read(text, "3");
        read("", "-100");
        read("n+n,n+n,n+n,n+n,n+n", "-115");
        b.term("(Codes: n 110, v 118, a 97, o 111, ! 33, + 43, the comma 44.)");
        int[] due = {110, 118, 97, 111};
        for (int code = -1; code <= 300; code++) {
            boolean letter = code == due[0] || code == due[1] || code == due[2] || code == due[3];
            b.answers(Scene.NEW.row(0, 2, code, 43, 110), "rule(0, 0, 0, 0, 2, 0, 3)", letter ? "0" : code == 33 ? "-101" : "-100");
            b.answers(Scene.NEW.row(0, 2, 110, code, 110), "rule(0, 0, 0, 0, 2, 0, 3)", code == 43 ? "0" : "-101");
            b.answers(Scene.NEW.row(0, 2, 110, 43, code), "rule(0, 0, 0, 0, 2, 0, 3)", letter ? "0" : "-102");
            b.answers(Scene.NEW.row(0, 2, code, 110, 43, 110), "rule(0, 0, 0, 0, 2, 0, 4)", code == 33 ? "0" : letter ? "-101" : "-100");
            b.answers(Scene.NEW.row(0, 2, 110, 43, 110, code, 118, 43, 118), "rule(0, 0, 0, 0, 2, 0, 7)", code == 44 ? "0" : "-103");
        }
    }

    private void firstFaults() {
        b.term("FIRST FAULT: the place (from 0 on) of the first code with which no TEXT goes on; how many codes there are, if it just ends"
            + " too soon.");
        // Too soon, at each place where a TEXT may not end.
        String whole = "!n+v,!v+a,!a+o,!o+n";
        for (int size = 0; size <= whole.length(); size++) {
            boolean ends = size % 5 == 4;
            read(whole.substring(0, size), ends ? "3" : String.valueOf(-100 - size));
        }
        // A code that no TEXT has, at each place, with a later one that is wrong, too.
        for (int at = 0; at < whole.length(); at++) {
            String text = whole.substring(0, at) + "x" + whole.substring(at + 1) + "x";
            read(text, String.valueOf(-100 - at));
        }
        // Codes that a TEXT has, but not there.
        String[] wrong = {"!!n+n", "+n", ",", "n!", "nn", "n,", "n++", "n+!", "n+,", "n+nn", "n+n+", "n+n!", "n+n,,", "n+n,+", "n+n,n,",
            "n+n,n+n,n+n,n+n,", "n+n,n+n,n+n,n+nn", "!n+n,!n+n,!n+n,!n+n,"};
        int[] place = {1, 0, 0, 1, 1, 1, 2, 2, 2, 3, 3, 3, 4, 4, 5, 15, 15, 19};
        for (int k = 0; k < wrong.length; k++) read(wrong[k], String.valueOf(-100 - place[k]));
        b.due(Scene.NEW.text(0, 2, "n+n,".repeat(15)), "rule(0, 0, 0, 0, 2, 0, 60) = -115", "rule(0, 0, 0, 0, 2, 1, 59) = -100",
            "rule(0, 0, 0, 0, 2, 60, 0) = -100", "rule(0, 0, 0, 0, 2, 56, 4) = -104", "rule(0, 0, 0, 0, 2, 56, 3) = 0");
    }

    private void tellers() {
        b.term("Of two CLASSES (x behind which y comes) the RULE of greatest number that is in force, of THE CLUB or of all, and tells of"
            + " them (in it the last clause that does) tells: they may be JOINED, or not (!); if there is none, they may not.");
        Scene two = Scene.NEW.rule(-1, 0, 999, "n+n,v+v").rule(0, 0, 999, "!n+n,a+a");
        b.due(two, "may(0, 0) = 0", "why(0, 0) = 1", "may(1, 1) = 1", "why(1, 1) = 0", "may(2, 2) = 1", "may(3, 3) = 0", "why(3, 3) = NONE",
            "stand(1, 0) = 1", "may(0, 0) = 1", "why(0, 0) = 0", "why(2, 2) = NONE");
        b.due(Scene.NEW.rule(0, 0, 9, "n+n").rule(0, 5, 5, "!n+n").rule(1, 0, 9, "!n+n"), "why(0, 0) = 0", "stand(0, 5) = 1",
            "why(0, 0) = 1", "may(0, 0) = 0", "stand(1, 5) = 1", "why(0, 0) = 2", "stand(2, 5) = 1", "why(0, 0) = NONE", "may(0, 0) = 0");
        String[] last = {"n+n,!n+n", "!n+n,n+n", "!n+n,v+v,n+n,v+v", "n+n,n+n,n+n,!n+n", "!n+n,n+n,!n+n,n+v"};
        int[] may = {0, 1, 1, 0, 0};
        for (int k = 0; k < last.length; k++) b.due(Scene.NEW.rule(0, 0, 0, last[k]), "may(0, 0) = " + may[k], "why(0, 0) = 0");
        // What is told of x and y is not told of y and x.
        b.due(Scene.NEW.rule(0, 0, 0, "n+v"), "may(0, 1) = 1", "may(1, 0) = 0");
    }

    private void rule() {
        Scene text = rich.row(2, 2, thirtyCodes());
        Ladder ladder = new Ladder(b, 5, text, "rule(club = 0, from = 5, to = 9, sheet = 2, lane = 2, i = 4, n = 3)");
        ladder
            .rung("UNKNOWN: SHEET", "UNKNOWN").when("sheet = -1 | 4 | MIN | MAX")
            .rung("OUTSIDE: club, from, to (to is ahead of from, too), lane", "OUTSIDE").when("club = -2 | 4 | MIN | MAX")
            .when("from = -1 | 1000 | MIN | MAX").when("to = -1 | 1000 | MIN | MAX").when("from = 10").when("to = 4")
            .when("lane = -1 | 3 | MIN | MAX").when("from = 1000, to = 1000").when("from = -1, to = -1");
        cells(ladder, "CAST", "SIZE")
            .rung("-100 less it", "-104").when("n = 4")
            .rung("FULL", "FULL").when("", sevenRules())
            .takes("club = -1 | 0 | 3", "3").takes("from = 0 | 9", "3").takes("to = 5 | 999", "3").takes("from = 999, to = 999", "3")
            .takes("from = 0, to = 0", "3").takes("n = 3 | 7 | 15", "3").takes("i = 27", "3").climb();
        b.of(5, "-100 less the FIRST FAULT");
        b.each(text, "rule(0, 0, 0, 2, 2, 4, 0) = -100", "rule(0, 0, 0, 2, 2, 4, 1) = -101", "rule(0, 0, 0, 2, 2, 4, 2) = -102",
            "rule(0, 0, 0, 2, 2, 0, 1) = -100", "rule(0, 0, 0, 2, 2, 30, 0) = -100", "rule(0, 0, 0, 2, 2, 4, 16) = -115");
        b.due(text, "rule(0, 0, 999, 2, 2, 4, 16) = -115", "many(2) = 3", "why(1, 1) = NONE", "rule(-1, 0, 999, 2, 2, 4, 3) = 3",
            "why(0, 0) = 3", "may(1, 1) = 0");
    }

    private static int[] thirtyCodes() {
        int[] cells = new int[30];
        String text = "n+n,v+v,v+v,v+v,v+v,v+vn+n";
        for (int k = 0; k < text.length(); k++) cells[4 + k] = text.charAt(k);
        return cells;
    }

    private static Scene sevenRules() {
        return Scene.NEW.times(7, "rule(3, 0, 0, 2, 2, 4, 3)");
    }

    private void theStand() {
        b.term("THE STAND: a CLUB (0 .. 3) and a YEAR: 0, 0 at first.");
        b.due(Scene.NEW, "stand(0, 0) = 0");
        b.due(Scene.NEW.rule(0, 0, 0, "n+n"), "may(0, 0) = 1");
        b.due(Scene.NEW.rule(1, 0, 0, "n+n").rule(0, 1, 1, "n+n"), "may(0, 0) = 0");
    }

    private void stand() {
        new Ladder(b, 6, rich, "stand(club = 1, year = 5)")
            .rung("OUTSIDE", "OUTSIDE").when("club = -1 | 4 | MIN | MAX").when("year = -1 | 1000 | MIN | MAX")
            .takes("club = 0 | 3, year = 0 | 999", "1").climb();
        b.of(6, "1; 0: it was so");
        b.due(rich, "stand(2, 6) = 0", "stand(2, 7) = 1", "stand(2, 7) = 0", "stand(3, 7) = 1", "stand(3, 7) = 0", "stand(2, 7) = 1");
    }

    private void mayAndWhy() {
        new Ladder(b, 7, rich, "may(x = 0, y = 0)")
            .rung("OUTSIDE", "OUTSIDE").when("x = -1 | 4 | MIN | MAX").when("y = -1 | 4 | MIN | MAX")
            .takes("x = 0, y = 0", "1").takes("x = 3, y = 3", "0").climb();
        b.of(7, "1, 0");
        b.each(rich, "may(0, 0) = 1", "may(0, 1) = 0", "may(3, 2) = 1", "may(2, 3) = 0");
        new Ladder(b, 8, rich, "why(x = 0, y = 0)")
            .rung("OUTSIDE", "OUTSIDE").when("x = -1 | 4 | MIN | MAX").when("y = -1 | 4 | MIN | MAX")
            .takes("x = 0, y = 0", "0").takes("x = 3, y = 2", "1").climb();
        b.of(8, "NONE");
        b.each(rich, "why(2, 3) = NONE", "why(3, 3) = NONE", "why(0, 1) = 0");
    }

    private void partsOfWays() {
        b.term("A WAY of a row of LETTERS: a ROOT, then PARTS as long as there are LETTERS: an ENDING that is from the CLASS it has so far"
            + " (it has then the one it goes to), or a ROOT whose CLASS may be JOINED behind that (it has then this one's).");
        Scene two = Scene.NEW.root(0, 0, "a").root(0, 1, "b").ending(0, 2, "c").ending(2, 1, "d").rule(-1, 0, 0, "n+n,a+v");
        String[] words = {"a", "b", "c", "aa", "ab", "ac", "acd", "acb", "aca", "acbd", "ad", "bb", "ca", "acdb", "aaacb"};
        int[] due = {1, 1, 0, 1, 0, 1, 1, 1, 0, 0, 0, 0, 0, 0, 1};
        for (int k = 0; k < words.length; k++) b.due(two.word(0, 2, words[k]), waysOf(words[k].length()) + " = " + due[k]);
        // A ROOT comes first, also where there are as many as may be, and all is JOINED to all.
        Scene most = Scene.NEW.word(3, 2, "abcdefghijklmnopqr").and("ending(0, 0, 3, 2, 16, 1)", "ending(0, 0, 3, 2, 17, 1)")
            .and(rootCalls(16).stream().map(call -> call.replace(", 0, 2, ", ", 3, 2, ")).toList());
        b.due(most.rule(-1, 0, 0, "n+n,n+v,n+a,n+o").word(0, 2, "qrapq"), "ways(0, 2, 0, 1) = 0", "ways(0, 2, 1, 1) = 0",
            "ways(0, 2, 0, 3) = 0", "ways(0, 2, 2, 3) = 0", "ways(0, 2, 2, 2) = 1", "parse(0, 2, 2, 2, 1) = 15",
            "parse(0, 2, 0, 1, 0) = NONE");
        b.due(most.word(0, 2, "aqqr"), "ways(0, 2, 0, 4) = 1", "parse(0, 2, 0, 4, 3) = 101");
        // No PART goes beyond the row, though cells behind it would suit.
        b.due(Scene.NEW.roots("abc").word(0, 2, "abc"), "ways(0, 2, 0, 2) = 0", "ways(0, 2, 0, 3) = 1", "parse(0, 2, 0, 2, 0) = NONE");
    }

    private void waysInOrder() {
        b.term("WAYS in order: at the first PART in which they differ by ROOTS' numbers, then by ENDINGS' (told as 100 and the number).");
        Scene two = Scene.NEW.root(0, 0, "ab").root(0, 0, "a").ending(0, 0, "b").root(0, 0, "b").ending(0, 0, "b").rule(-1, 0, 0, "n+n");
        b.due(two.word(0, 2, "abb"), "parse(0, 2, 0, 3, 0) = 0", "parse(0, 2, 0, 3, 1) = 2", "parse(0, 2, 0, 3, 2) = NONE");
        b.due(two.rule(-1, 0, 0, "!n+n").word(0, 2, "abb"), "parse(0, 2, 0, 3, 0) = 0", "parse(0, 2, 0, 3, 1) = 100",
            "ways(0, 2, 0, 3) = 6");
        // The least first PART leads nowhere, so the next one is taken.
        Scene dead = Scene.NEW.root(0, 0, "ab").root(0, 1, "a").ending(1, 1, "bc").word(0, 2, "abc");
        b.due(dead, "parse(0, 2, 0, 3, 0) = 1", "parse(0, 2, 0, 3, 1) = 100", "ways(0, 2, 0, 3) = 1");
        Scene last = Scene.NEW.root(0, 0, "a").ending(1, 1, "b").ending(1, 1, "b").ending(1, 1, "b").ending(1, 1, "b").ending(1, 1, "b")
            .ending(1, 1, "b").ending(1, 1, "b").ending(0, 0, "b").word(0, 2, "ab");
        b.due(last, "parse(0, 2, 0, 2, 1) = 107", "ways(0, 2, 0, 2) = 1");
    }

    private void ways() {
        Ladder ladder = new Ladder(b, 9, rich, "ways(sheet = 2, lane = 2, i = 4, n = 1)");
        ladder
            .rung("UNKNOWN", "UNKNOWN").when("sheet = -1 | 4 | MIN | MAX")
            .rung("OUTSIDE: lane", "OUTSIDE").when("lane = -1 | 3 | MIN | MAX");
        cells(ladder, "CAST", "SIZE")
            .rung("OUTSIDE: n is not 1 .. 20, a LETTER", "OUTSIDE").when("n = 0 | 21 | 26").when("i = 1 | 2 | 3").when("i = 30, n = 0")
            .takes("n = 1 | 20", "0").takes("i = 29", "0").takes("i = 0", "1").climb();
    }

    private void howManyWays() {
        b.of(9, "How many WAYS n such cells (LETTERS) have (1000000, if there are as many or more).");
        Scene five = Scene.NEW.roots("a");
        for (int k = 0; k < 5; k++) five = five.ending(0, 1, "b");
        for (int k = 0; k < 2; k++) five = five.ending(1, 0, "b");
        Scene million = five.word(0, 2, "a" + "b".repeat(12));
        b.due(million, waysOf(12) + " = 500000", waysOf(13) + " = 1000000", "ways(0, 2, 0, 1) = 1");
        // One WAY more: abbb, bbb, bbb, bbb of a CLASS that no other has.
        b.due(five.root(0, 2, "abbb").root(0, 2, "bbb").rule(-1, 0, 0, "a+a").word(0, 2, "a" + "b".repeat(12)), waysOf(13) + " = 1000000",
            waysOf(10) + " = 50001");
        b.due(aMillionLessOne(), waysOf(16) + " = 999999");
        Scene eight = Scene.NEW.roots("a");
        for (int k = 0; k < 8; k++) eight = eight.ending(0, 0, "b");
        b.due(eight.word(0, 2, "a" + "b".repeat(19)), waysOf(20) + " = 1000000", waysOf(7) + " = 262144", waysOf(8) + " = 1000000");
        b.due(eight.word(0, 2, "a" + "b".repeat(18) + "a"), waysOf(20) + " = 0");
    }

    /** 13 times 21 times 33 times 111 WAYS: of ccc, dddd, eee, fffff behind one ROOT. */
    private static Scene aMillionLessOne() {
        Scene all = Scene.NEW.word(3, 2, "ccccddddffff");
        int[][] parts = {{0, 1}, {0, 2}, {0, 3}, {4, 1}, {4, 3}, {4, 4}, {8, 1}, {8, 2}, {8, 3}, {8, 4}};
        for (int[] part : parts) all = all.and("root(0, 0, 3, 2, " + part[0] + ", " + part[1] + ")");
        all = all.and("ending(0, 0, 3, 2, 0, 1)", "ending(0, 0, 3, 2, 4, 1)").times(4, "ending(0, 0, 3, 2, 8, 2)");
        return all.roots("e", "ee", "r").ending(0, 0, "e").ending(0, 0, "e").rule(-1, 0, 0, "n+n").word(0, 2, "rcccddddeeefffff");
    }

    private void parse() {
        b.of(10, "As ways(); UNKNOWN: k is not 0 .. 19 (ahead of all else).");
        Ladder ladder = new Ladder(b, 10, rich, "parse(sheet = 2, lane = 2, i = 4, n = 1, k = 0)");
        ladder
            .rung("UNKNOWN: k is not 0 .. 19 (ahead of all else)", "UNKNOWN").when("k = -1 | 20 | MIN | MAX")
            .rung("As ways()", "UNKNOWN").when("sheet = -1 | 4 | MIN | MAX")
            .rung("As ways()", "OUTSIDE").when("lane = -1 | 3 | MIN | MAX")
            .rung("As ways()", "NULL").when("sheet = 3")
            .rung("As ways()", "CAST").when("lane = 0 | 1")
            .rung("As ways()", "SIZE").when("n = -1 | MIN")
            .rung("As ways()", "INDEX").when("i = -1 | 31 | MIN | MAX").when("n = 31 | MAX").when("i = 30, n = 1").when("i = 31, n = 0")
            .rung("As ways()", "OUTSIDE").when("n = 0 | 21").when("i = 1 | 2 | 3").when("i = 30, n = 0")
            .takes("n = 1 | 20, k = 0 | 19", "NONE").takes("i = 0", "2").climb();
        b.of(10, "The k-th PART of the first WAY: a ROOT's number, 100 and an ENDING's; NONE: it has fewer, or there is no WAY.");
        Scene longest = Scene.NEW.roots("a", "b").rule(-1, 0, 0, "n+n").ending(0, 0, "c").word(0, 2, "a".repeat(18) + "bc");
        b.due(longest, "parse(0, 2, 0, 20, 0) = 0", "parse(0, 2, 0, 20, 17) = 0", "parse(0, 2, 0, 20, 18) = 1",
            "parse(0, 2, 0, 20, 19) = 100", "parse(0, 2, 0, 19, 18) = 1", "parse(0, 2, 0, 19, 19) = NONE", "parse(0, 2, 0, 1, 0) = 0",
            "parse(0, 2, 0, 1, 1) = NONE", "parse(0, 2, 19, 1, 0) = NONE", "parse(0, 2, 19, 1, 19) = NONE");
    }

    /** TWO as a word, "" where there is none. */
    private void twoIs(Scene scene, String word) {
        List<String> lines = new ArrayList<>();
        lines.add("two(-1) = " + (word.isEmpty() ? "NONE" : String.valueOf(word.length())));
        int[] letters = Scene.lettersOf(word);
        for (int k = 0; k < 12; k++) lines.add("two(" + k + ") = " + (k < letters.length ? String.valueOf(letters[k]) : "NONE"));
        b.due(scene, lines.toArray(new String[0]));
    }

    private void partsOfTwo() {
        b.term("TWO: of all rows that have a WAY of three PARTS at most (the first ROOT is one), the least that has two WAYS or more (of"
            + " any length)");
        Scene chain = Scene.NEW.root(0, 0, "a").ending(0, 1, "b").ending(1, 2, "c").ending(2, 3, "d");
        // Three PARTS and three others; then four and four, which do not count; then one and four.
        twoIs(chain.ending(1, 3, "c"), "abc");
        twoIs(chain, "");
        twoIs(chain.ending(2, 3, "d"), "");
        twoIs(chain.root(0, 0, "abcd"), "abcd");
        twoIs(chain.ending(2, 2, "d").root(0, 1, "ab"), "ab");
        // WAYS that part at once and come together at the end alone: two PARTS and four, four and four, three and four.
        Scene four = Scene.NEW.root(0, 0, "a").ending(0, 1, "bc").ending(1, 2, "de").ending(2, 0, "fg");
        twoIs(four.root(0, 3, "efg").rule(-1, 0, 0, "o+o"), "");
        twoIs(four.root(0, 3, "efg").rule(-1, 0, 0, "o+o").root(0, 3, "abcd"), "abcdefg");
        Scene other = four.root(0, 3, "ab").ending(3, 3, "cd").ending(3, 3, "ef");
        twoIs(other, "");
        twoIs(other.ending(3, 3, "g"), "");
        twoIs(other.root(0, 3, "efg").rule(-1, 0, 0, "o+o"), "abcdefg");
        partsBehindOne();
        for (int turn = 0; turn < 4; turn++) partsBehindTwo(turn, (turn + 1) % 4, (turn + 2) % 4, (turn + 3) % 4);
        // One WAY of a row is not enough, however many rows have one.
        twoIs(Scene.NEW.roots("a", "b").ending(0, 0, "c").rule(-1, 0, 0, "n+n"), "");
        // A WAY of one PART and one of four, as many as four LETTERS allow.
        twoIs(Scene.NEW.root(0, 0, "aaaa").root(0, 1, "a").rule(-1, 0, 0, "v+v"), "aaaa");
    }

    /** Both WAYS begin with r: two PARTS more are taken, three are not. */
    private void partsBehindOne() {
        Scene one = Scene.NEW.root(0, 0, "r").ending(0, 1, "a").ending(1, 1, "bc").ending(1, 1, "de").ending(0, 2, "ab").ending(2, 2, "cd");
        twoIs(one, "");
        twoIs(one.ending(2, 2, "e"), "");
        twoIs(one.ending(1, 1, "d"), "rabcd");
        twoIs(one.root(0, 2, "cde").rule(-1, 0, 0, "a+a"), "rabcde");
    }

    /** Both WAYS begin with r and s: one PART more is taken, two are not; whatever the CLASSES are. */
    private void partsBehindTwo(int n, int v, int a, int o) {
        String letters = "nvao";
        Scene two = Scene.NEW.root(0, n, "r").ending(n, v, "s").ending(v, a, "a").ending(a, a, "bc").ending(v, o, "ab");
        twoIs(two, "");
        twoIs(two.ending(o, o, "c"), "");
        twoIs(two.ending(a, a, "b"), "rsab");
        twoIs(two.root(0, o, "abc").rule(-1, 0, 0, letters.charAt(v) + "+" + letters.charAt(o)), "rsabc");
        // Behind three PARTS none is left.
        Scene three = Scene.NEW.root(0, n, "r").ending(n, v, "s").ending(v, a, "t").ending(a, o, "u");
        twoIs(three.ending(a, o, "u"), "");
        twoIs(three.ending(v, a, "t"), "rst");
    }

    private void leastOfTwo() {
        b.term("fewest LETTERS, then by LETTERS from the first on");
        Scene some = Scene.NEW.root(0, 0, "z").root(0, 1, "zz").root(0, 1, "abc").root(0, 0, "ab").ending(0, 1, "c").ending(0, 1, "z");
        twoIs(some, "zz");
        twoIs(some.root(0, 1, "zc"), "zc");
        twoIs(some.root(0, 1, "zc").root(0, 0, "y").root(0, 1, "yz"), "yz");
        twoIs(Scene.NEW.root(0, 0, "ab").root(0, 1, "abz").root(0, 0, "b").root(0, 1, "bza").ending(0, 1, "z").ending(1, 1, "a").root(0, 1,
            "bz"), "bz");
        // What both WAYS begin with is the least that there is: fewest LETTERS first, then by LETTERS.
        Scene behindOne = Scene.NEW.ending(0, 1, "x").ending(0, 1, "x").root(0, 0, "aa").root(0, 0, "c");
        twoIs(behindOne, "cx");
        twoIs(behindOne.root(0, 0, "b"), "bx");
        twoIs(behindOne.root(0, 0, "d"), "cx");
        Scene behindTwo = Scene.NEW.ending(1, 2, "x").ending(1, 2, "x").root(0, 0, "b").root(0, 0, "c").ending(0, 1, "aa")
            .ending(0, 1, "d");
        twoIs(behindTwo, "bdx");
        twoIs(behindTwo.ending(0, 1, "c"), "bcx");
        twoIs(behindTwo.ending(0, 1, "e"), "bdx");
        twoIs(behindTwo.root(0, 0, "a"), "adx");
        twoIs(behindTwo.root(0, 1, "zz"), "bdx");
        twoIs(behindTwo.root(0, 1, "az"), "azx");
        twoIs(behindTwo.root(0, 1, "z"), "zx");
        // Of rows that begin with different CLASSES, too.
        Scene classes = behindOne.ending(1, 1, "x").ending(1, 1, "w").ending(1, 1, "w").root(0, 1, "d");
        twoIs(classes, "cx");
        twoIs(classes.root(0, 1, "b"), "bw");
        // A longer row that comes first by LETTERS is not the least, nor one of as many that comes later.
        twoIs(Scene.NEW.root(0, 0, "a").root(0, 1, "abb").ending(0, 2, "bb").root(0, 0, "z").root(0, 1, "zz").ending(0, 3, "z"), "zz");
        twoIs(Scene.NEW.root(0, 0, "z").root(0, 1, "zb").ending(0, 2, "b").root(0, 0, "a").root(0, 1, "az").ending(0, 3, "z"), "az");
        // One LETTER has one WAY, for no two ROOTS are alike: two LETTERS are the fewest.
        twoIs(Scene.NEW.root(0, 0, "a").ending(0, 0, "a").ending(0, 0, "a"), "aa");
        // Four and four and four LETTERS are the most.
        Scene most = Scene.NEW.root(0, 0, "abcd").root(0, 1, "efgh").root(0, 2, "ijkl").root(0, 3, "abc").root(0, 3, "defg")
            .root(0, 3, "hij");
        Scene joined = most.rule(-1, 0, 0, "n+v,v+a,o+o");
        twoIs(joined, "");
        twoIs(joined.root(0, 3, "kl"), "abcdefghijkl");
    }

    private void two() {
        new Ladder(b, 11, rich, "two(k = 0)")
            .rung("UNKNOWN: k is not -1 .. 11", "UNKNOWN").when("k = -2 | 12 | MIN | MAX")
            .climb();
        b.of(11, "Of TWO: how many LETTERS (k -1), the k-th one; NONE: there is none, it has fewer.");
        twoIs(Scene.NEW, "");
        twoIs(Scene.NEW.roots("a").ending(0, 0, "b"), "");
        twoIs(Scene.NEW.roots("a", "ab").ending(0, 0, "b"), "ab");
        // It follows ROOTS, ENDINGS, RULES and THE STAND.
        b.due(Scene.NEW.roots("a", "b").text(0, 2, "n+n").word(1, 2, "ab"), "two(-1) = NONE", "root(0, 0, 1, 2, 0, 2) = 2",
            "two(-1) = NONE", "rule(0, 0, 0, 0, 2, 0, 3) = 0", "two(-1) = 2", "two(0) = 1", "stand(1, 0) = 1", "two(-1) = NONE",
            "ending(0, 0, 1, 2, 1, 1) = 0", "two(1) = 2", "two(2) = NONE");
        b.due(Scene.NEW.roots("a", "b").rule(-1, 0, 0, "n+n").word(0, 2, "abaa"), "two(-1) = NONE", "root(0, 0, 0, 2, 0, 3) = 2",
            "two(-1) = 3", "root(0, 0, 0, 2, 1, 2) = 3", "two(-1) = 2", "two(0) = 2", "root(0, 0, 0, 2, 2, 2) = 4", "two(0) = 1",
            "two(1) = 1", "two(2) = NONE");
        b.due(Scene.NEW.roots("a").word(0, 2, "cb"), "ending(0, 0, 0, 2, 0, 1) = 0", "two(-1) = NONE", "ending(0, 0, 0, 2, 0, 1) = 1",
            "two(1) = 3", "ending(0, 0, 0, 2, 1, 1) = 2", "two(1) = 3", "ending(0, 0, 0, 2, 1, 1) = 3", "two(1) = 2");
    }
}
