import java.util.ArrayList;
import java.util.List;

/** Calls that bring a new object to where a test begins; a scene is never changed, each call here answers a longer one. */
final class Scene {
    /** An object as it is made. */
    static final Scene NEW = new Scene(List.of());

    /** Where helpers lay rows of their own; it has nothing behind them. */
    private static final int DESK = 3;

    private final List<String> calls;

    private Scene(List<String> calls) {
        this.calls = calls;
    }

    List<String> calls() {
        return calls;
    }

    Scene and(String... more) {
        return and(List.of(more));
    }

    Scene and(List<String> more) {
        List<String> all = new ArrayList<>(calls);
        all.addAll(more);
        return new Scene(List.copyOf(all));
    }

    Scene and(Scene more) {
        return and(more.calls);
    }

    static int[] lettersOf(String word) {
        return word.chars().map(c -> c - 'a' + 1).toArray();
    }

    Scene row(int sheet, int lane, int... values) {
        List<String> laid = new ArrayList<>();
        laid.add("sheet(" + sheet + ", " + lane + ", " + values.length + ")");
        for (int i = 0; i < values.length; i++) {
            if (values[i] != 0) laid.add("put(" + sheet + ", " + i + ", " + values[i] + ")");
        }
        return and(laid);
    }

    Scene word(int sheet, int lane, String word) {
        return row(sheet, lane, lettersOf(word));
    }

    Scene text(int sheet, int lane, String text) {
        return row(sheet, lane, text.chars().toArray());
    }

    Scene root(int kind, int cls, String word) {
        return word(DESK, 2, word).and("root(" + kind + ", " + cls + ", 3, 2, 0, " + word.length() + ")", "lose(3)");
    }

    /** ROOTS of kind 0 and CLASS 0. */
    Scene roots(String... words) {
        Scene all = this;
        for (String word : words) all = all.root(0, 0, word);
        return all;
    }

    Scene ending(int from, int to, String word) {
        return word(DESK, 2, word).and("ending(" + from + ", " + to + ", 3, 2, 0, " + word.length() + ")", "lose(3)");
    }

    Scene rule(int club, int from, int to, String text) {
        return text(DESK, 2, text).and("rule(" + club + ", " + from + ", " + to + ", 3, 2, 0, " + text.length() + ")", "lose(3)");
    }

    Scene tongue(int t, int x, String word) {
        return word(DESK, 2, word).and("tongue(" + t + ", " + x + ", 3, 2, 0, " + word.length() + ")", "lose(3)");
    }

    Scene sentence(int... cells) {
        return row(DESK, 2, cells).and("sentence(3, 2, 0, " + cells.length / 3 + ")", "lose(3)");
    }

    /** So many PERSONS of FIRST tongue 0. */
    Scene persons(int count) {
        return times(count, "person(0)");
    }

    Scene times(int count, String call) {
        return and(java.util.Collections.nCopies(count, call));
    }

    /**
     * Some of everything: ROOTS ab, abc, b, zz, azaz of all kinds and CLASSES, six PERSONS, and so on. SHEET 0 has
     * bytes, 1 shorts, 3 nothing; 2 has thirty ints: the LETTER b (a ROOT), 0, 27, -1, and from 4 on 26 LETTERS.
     */
    static Scene rich() {
        return NEW.word(3, 2, "ababcbzzazazc")
            .and("root(0, 0, 3, 2, 0, 2)", "root(1, 1, 3, 2, 2, 3)", "root(2, 2, 3, 2, 5, 1)", "root(0, 3, 3, 2, 6, 2)",
                "root(2, 0, 3, 2, 8, 4)", "ending(0, 1, 3, 2, 12, 1)", "ending(1, 0, 3, 2, 5, 2)",
                "tongue(0, 0, 3, 2, 2, 3)", "tongue(1, 3, 3, 2, 6, 1)")
            .text(3, 2, "n+n,!n+v,o+a,v+n")
            .and("rule(-1, 0, 999, 3, 2, 0, 8)", "rule(2, 5, 7, 3, 2, 9, 7)", "rule(1, 0, 999, 3, 2, 9, 3)", "stand(2, 6)")
            .row(3, 2, 0, 0, 1, 1, 1, 2, 2, 3, 4)
            .and("sentence(3, 2, 0, 2)", "sentence(3, 2, 3, 2)", "mean(0, 0, 1, 2)", "mean(1, 1, 4, 0)", "mean(3, 2, 0, 8)")
            .and("person(0)", "person(1)", "person(2)", "person(3)", "person(0)", "person(1)")
            .and("learn(0, 0, true)", "learn(0, 1, true)", "learn(1, 3, true)", "learn(5, 2, true)")
            .and("journal(1, 6)", "journal(2, 9)", "need(3)", "month()", "month()")
            .and("body(7, 5, 6)", "body(60, 2, 10)", "vote(0, 1, 7)", "letters(0, 1, 5)", "letters(1, 2, 7)", "letters(3, 4, 9)")
            .and("uses(0, 10)", "uses(3, 7)", "uses(1, 3)", "pair(0, 3)", "session(3)", "session(5)", "session(48)", "hall(3, 1)")
            .and("road(0, 1, true)", "road(1, 2, true)", "road(2, 3, true)", "road(0, 4, true)", "road(4, 3, true)", "forbid(2)")
            .and("tell(1)", "say(2)")
            .row(0, 0, 1, 2, 3, -4, 5).row(1, 1, 6, 7, 300).row(2, 2, sheetTwo()).and("lose(3)");
    }

    private static int[] sheetTwo() {
        int[] cells = new int[30];
        int[] first = {2, 0, 27, -1};
        System.arraycopy(first, 0, cells, 0, 4);
        System.arraycopy(lettersOf("pqrstuvwxyzpqrstuvwxyapqrs"), 0, cells, 4, 26);
        return cells;
    }
}
