/** What all tests share: answers that are due are counted, and rows are laid on SHEETS. */
final class Check {
    static final int UNKNOWN = -1, OUTSIDE = -2, STATE = -3, FULL = -4, NONE = -9;
    static final int NULL = -11, CAST = -12, INDEX = -13, SIZE = -14;
    static final long LOST = Long.MIN_VALUE;

    private int right;
    private int wrong;

    void due(String what, long got, long want) {
        if (got == want) {
            right++;
            return;
        }
        wrong++;
        System.out.println("  " + what + " answered " + got + ", due is " + want);
    }

    void due(String what, boolean holds) {
        due(what, holds ? 1 : 0, 1);
    }

    /** A new row of a LANE on a SHEET. */
    void lay(MadeTongue x, int sheet, int lane, int... values) {
        due("sheet(" + sheet + ", " + lane + ", " + values.length + ")", x.sheet(sheet, lane, values.length), 1);
        for (int i = 0; i < values.length; i++) due("put(" + sheet + ", " + i + ")", x.put(sheet, i, values[i]), 1);
    }

    static int[] codes(String text) {
        return text.chars().toArray();
    }

    /** LETTERS of a word of small letters: a is 1. */
    static int[] letters(String word) {
        return word.chars().map(c -> c - 'a' + 1).toArray();
    }

    int root(MadeTongue x, int kind, int cls, String word) {
        lay(x, 3, 2, letters(word));
        return x.root(kind, cls, 3, 2, 0, word.length());
    }

    int ending(MadeTongue x, int from, int to, String word) {
        lay(x, 3, 2, letters(word));
        return x.ending(from, to, 3, 2, 0, word.length());
    }

    int rule(MadeTongue x, int club, int from, int to, String text) {
        lay(x, 3, 2, codes(text));
        return x.rule(club, from, to, 3, 2, 0, text.length());
    }

    int ways(MadeTongue x, String word) {
        lay(x, 3, 2, letters(word));
        return x.ways(3, 2, 0, word.length());
    }

    /** The first WAY, PARTS with a blank between. */
    String parsed(MadeTongue x, String word) {
        lay(x, 3, 2, letters(word));
        StringBuilder parts = new StringBuilder();
        for (int k = 0; k < 20; k++) {
            int part = x.parse(3, 2, 0, word.length(), k);
            if (part == NONE) continue;
            parts.append(parts.length() == 0 ? "" : " ").append(part);
        }
        return parts.toString();
    }

    /** TWO as a word; "" for none. */
    String two(MadeTongue x) {
        int size = x.two(-1);
        StringBuilder word = new StringBuilder();
        for (int k = 0; k < 12; k++) {
            int letter = x.two(k);
            due("two(" + k + ") is there", (letter != NONE) == (size != NONE && k < size));
            if (letter != NONE) word.append((char) ('a' + letter - 1));
        }
        return word.toString();
    }

    int tongue(MadeTongue x, int t, int root, String word) {
        lay(x, 3, 2, letters(word));
        return x.tongue(t, root, 3, 2, 0, word.length());
    }

    long reform(MadeTongue x, int root, int what, String word) {
        lay(x, 3, 2, letters(word));
        return x.reform(root, what, 3, 2, 0, word.length());
    }

    int sentence(MadeTongue x, int... cells) {
        lay(x, 3, 2, cells);
        return x.sentence(3, 2, 0, cells.length / 3);
    }

    /** Ends a test: exit code 1, if an answer was not the one that was due. */
    void end(String name) {
        System.out.println(name + ": " + right + " answers as due, " + wrong + " not");
        if (wrong != 0) System.exit(1);
    }
}
