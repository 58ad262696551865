import java.lang.reflect.InvocationTargetException;
import java.lang.reflect.Method;
import java.lang.reflect.Modifier;
import java.util.ArrayList;
import java.util.Arrays;
import java.util.HashMap;
import java.util.List;
import java.util.Map;
import java.util.Random;

/**
 * Runs of calls, by numbers that come always the same, on the class and on PlainTongue: they must answer
 * alike. Some runs keep to one part of the document, some go through all; some calls take wild numbers.
 */
public final class AgainstPlainTest {
    private static final int CALLS = 512;
    private static final int[] WILD = {Integer.MIN_VALUE, Integer.MAX_VALUE, -1, -2, 0, 1, 3, 4, 5, 10, 16, 20, 21, 31, 32,
        33, 60, 61, 64, 99, 100, 255, 256, 968, 969, 999, 1000, 1023, 1024, 4095, 4096, 715827883, 1431655766, -715827882};

    private static final Map<String, Method> OURS = methodsOf(MadeTongue.class, true);
    private static final Map<String, Method> PLAIN = methodsOf(PlainTongue.class, false);

    private final Random random;
    private final MadeTongue ours = new MadeTongue();
    private final PlainTongue plain = new PlainTongue();
    private final List<String> done = new ArrayList<>();
    private final int letters;
    private int wrong;

    private AgainstPlainTest(long seed) {
        random = new Random(seed);
        letters = 1 + random.nextInt(6);
    }

    private static Map<String, Method> methodsOf(Class<?> type, boolean openOnly) {
        Map<String, Method> all = new HashMap<>();
        for (Method m : type.getDeclaredMethods()) {
            boolean fits = openOnly ? Modifier.isPublic(m.getModifiers()) : !Modifier.isPrivate(m.getModifiers());
            if (!fits || m.isSynthetic() || Modifier.isStatic(m.getModifiers())) continue;
            m.setAccessible(true);
            all.put(m.getName(), m);
        }
        return all;
    }

    private long call(String name, Object... args) {
        if (done.size() >= CALLS) return 0;
        String told = name + Arrays.toString(args);
        try {
            long got = ((Number) OURS.get(name).invoke(ours, args)).longValue();
            long want = ((Number) PLAIN.get(name).invoke(plain, args)).longValue();
            done.add(told + " " + want);
            if (got != want) {
                wrong++;
                System.out.println("  " + told + " answered " + got + ", plainly " + want + ", behind " + done);
            }
            return want;
        } catch (InvocationTargetException | IllegalAccessException e) {
            wrong++;
            System.out.println("  " + told + " threw " + e.getCause() + ", behind " + done);
            return 0;
        }
    }

    private int below(int bound) { return random.nextInt(bound); }

    private boolean rarely() { return below(24) == 0; }

    private int wildOr(int tame) { return rarely() ? WILD[below(WILD.length)] : tame; }

    private int set(int bits) { return below(1 << bits); }

    private int wildSet() {
        int persons = (int) call("many", 4);
        return wildOr(persons == 0 ? 0 : set(persons));
    }

    private int root() { return wildOr(below(Math.max(1, (int) call("many", 0)))); }

    private int person() { return wildOr(below(Math.max(1, (int) call("many", 4)))); }

    private int[] word(int most) {
        int[] row = new int[1 + below(most)];
        for (int i = 0; i < row.length; i++) row[i] = 1 + below(letters);
        if (rarely()) row[below(row.length)] = new int[] {0, 26, 27, 257, 65537, -1}[below(6)];
        return row;
    }

    /** A row on a SHEET, with cells ahead of it and behind: SHEET, LANE, i, n, now and then a wrong one. */
    private int[] laid(int... row) {
        int sheet = below(4), lane = below(3), before = below(3), behind = below(3);
        call("sheet", sheet, lane, before + row.length + behind);
        for (int i = 0; i < row.length; i++) call("put", sheet, before + i, row[i]);
        if (rarely()) call("lose", sheet);
        return new int[] {wildOr(sheet), rarely() ? below(5) - 1 : lane, wildOr(before), wildOr(row.length)};
    }

    private void makeRoot() {
        int[] at = laid(word(4));
        call("root", wildOr(below(3)), wildOr(below(4)), at[0], at[1], at[2], at[3]);
    }

    private void makeEnding() {
        int[] at = laid(word(2));
        call("ending", wildOr(below(4)), wildOr(below(4)), at[0], at[1], at[2], at[3]);
    }

    private void makeRule() {
        StringBuilder text = new StringBuilder();
        int clauses = 1 + below(rarely() ? 6 : 4);
        for (int k = 0; k < clauses; k++) {
            text.append(k == 0 ? "" : ",").append(below(4) == 0 ? "!" : "");
            text.append("nvao".charAt(below(4))).append('+').append("nvao".charAt(below(4)));
        }
        if (below(5) == 0) text.setLength(below(text.length() + 1));
        if (below(5) == 0) text.insert(below(text.length() + 1), "nvao!+,x".charAt(below(8)));
        int[] at = laid(text.chars().toArray());
        int from = below(4);
        call("rule", wildOr(below(5) - 1), wildOr(from), wildOr(from + below(4)), at[0], at[1], at[2], at[3]);
    }

    private void takeApart() {
        int[] at = laid(word(letters == 1 ? 22 : 12));
        call("ways", at[0], at[1], at[2], at[3]);
        for (int k = 0; k < 5; k++) call("parse", at[0], at[1], at[2], at[3], k);
        call("parse", at[0], at[1], at[2], at[3], wildOr(below(20)));
    }

    private void readTwo() {
        for (int k = -1; k < 12; k++) call("two", k);
        call("two", wildOr(0));
    }

    private void wordsStep() {
        switch (below(9)) {
            case 0: case 1: makeRoot(); break;
            case 2: makeEnding(); break;
            case 3: makeRule(); break;
            case 4: call("stand", wildOr(below(4)), wildOr(below(6))); break;
            case 5: takeApart(); break;
            case 6: if (below(2) == 0) readTwo(); break;
            case 7: call("ofRoot", root(), wildOr(below(10))); break;
            default:
                int x = wildOr(below(4)), y = wildOr(below(4));
                call("may", x, y);
                call("why", x, y);
        }
    }

    private void meaningsStep() {
        switch (below(7)) {
            case 0:
                makeRoot();
                break;
            case 1:
                int[] cells = new int[3 * (1 + below(4))];
                for (int i = 0; i < cells.length; i++) cells[i] = wildOr(i % 3 == 0 ? below(3) : below(Math.max(1, (int) call("many", 0))));
                int[] at = laid(cells);
                call("sentence", at[0], at[1], at[2], rarely() ? at[3] : cells.length / 3);
                break;
            case 2: case 3:
                call("mean", wildOr(below(4)), root(), wildOr(set(4)), wildOr(set(2)));
                break;
            case 4:
                call("differ", wildOr(below(4)), wildOr(below(4)), wildOr(below(4)));
                break;
            case 5:
                call("worlds", wildOr(below(4)), wildOr(below(4)));
                break;
            default:
                call("isTrue", wildOr(below(4)), wildOr(below(4)), wildOr(below(969)));
                call("world", wildOr(below(969)), wildOr(below(3)));
        }
    }

    private void personsStep() {
        int p = person(), x = root();
        switch (below(12)) {
            case 0: makeRoot(); break;
            case 1: call("person", wildOr(below(4))); break;
            case 2: int[] at = laid(word(4)); call("tongue", wildOr(below(4)), x, at[0], at[1], at[2], rarely() ? 0 : at[3]); break;
            case 3: call("easy", p, x); break;
            case 4: call("learn", p, x, below(3) > 0); break;
            case 5: call("knows", p); call("spread", x); break;
            case 6: int[] to = laid(word(4)); call("reform", x, wildOr(below(2)), to[0], to[1], to[2], to[3]); break;
            case 7: call("journal", wildSet() & wildSet(), wildSet()); break;
            case 8: call("need", wildOr(1 + below(9))); break;
            case 9: for (int k = below(8); k >= 0; k--) call("month"); break;
            case 10: call("month"); break;
            default: call("heard", p, x);
        }
    }

    private void bodiesStep() {
        int p = person(), q = person(), x = root();
        switch (below(13)) {
            case 0: makeRoot(); break;
            case 1: call("person", wildOr(below(4))); break;
            case 2: call("body", wildSet(), wildOr(set(3)), wildOr(1 + below(10))); break;
            case 3: call("vote", wildOr(below(4)), wildOr(below(3)), wildSet() & wildSet()); break;
            case 4: call("beyond", wildOr(below(4))); call("seats"); break;
            case 5: case 6: case 7: call("letters", p, q, wildOr(below(12))); break;
            case 8: call("part", p, q, 0); call("part", p, q, wildOr(1)); break;
            case 9: call("uses", x, wildOr(below(30))); break;
            case 10: call("pair", x, root()); break;
            case 11: call("learn", p, x, true); break;
            default: call("keep", 0); call("keep", wildOr(1));
        }
    }

    private void congressStep() {
        int a = wildOr(below(10)), b = wildOr(below(10));
        switch (below(9)) {
            case 0: call("person", 0); break;
            case 1: call("session", wildSet()); break;
            case 2: call("hall", wildOr(1 + below(3)), wildOr(1 + below(4))); break;
            case 3: for (int s = -1; s < 7; s++) call("table", s); break;
            case 4: case 5: call("road", a, b, below(3) > 0); break;
            case 6: call("forbid", wildOr(set(10) & set(10))); break;
            case 7: call("letter", a, b); break;
            default: call("round", a);
        }
    }

    private void sheetsStep() {
        int k = wildOr(below(4)), i = wildOr(below(8) - 1), lane = rarely() ? 3 : below(3);
        switch (below(10)) {
            case 0: makeRoot(); break;
            case 1: call("sheet", k, lane, wildOr(below(8))); break;
            case 2: if (rarely()) call("lose", k); break;
            case 3: case 4: call("put", k, i, random.nextInt()); break;
            case 5: call("cell", k, i, lane); break;
            case 6: call("copy", k, i, below(4), wildOr(below(6)), wildOr(below(6))); break;
            case 7: call("tell", root()); break;
            case 8: call("say", root()); break;
            default: call("as", root(), wildOr(below(3)));
        }
        call("trace");
    }

    private void wildStep() {
        List<String> names = new ArrayList<>(OURS.keySet());
        names.sort(null);
        String name = names.get(below(names.size()));
        Class<?>[] types = OURS.get(name).getParameterTypes();
        Object[] args = new Object[types.length];
        for (int k = 0; k < args.length; k++) {
            if (types[k] == boolean.class) args[k] = below(2) == 0;
            else args[k] = below(3) == 0 ? WILD[below(WILD.length)] : below(4);
        }
        call(name, args);
    }

    private void step(int part) {
        switch (part) {
            case 0: wordsStep(); break;
            case 1: meaningsStep(); break;
            case 2: personsStep(); break;
            case 3: bodiesStep(); break;
            case 4: congressStep(); break;
            case 5: sheetsStep(); break;
            default: wildStep();
        }
    }

    /** A word of its least length or more, with no wrong LETTER in it. */
    private int[] tame(int least, int most) {
        int[] row = new int[least + below(most - least + 1)];
        for (int i = 0; i < row.length; i++) row[i] = 1 + below(letters);
        return row;
    }

    private void makeTameRoots(int count, int least, int most) {
        for (int k = 0; k < count; k++) {
            int[] row = tame(least, most);
            layTame(row);
            call("root", below(3), below(4), 0, 2, 0, row.length);
        }
    }

    private void layTame(int... row) {
        call("sheet", 0, 2, row.length);
        for (int i = 0; i < row.length; i++) call("put", 0, i, row[i]);
    }

    private void makeTameEndings(int count) {
        for (int k = 0; k < count; k++) {
            int[] row = tame(1, 2);
            layTame(row);
            call("ending", below(4), below(4), 0, 2, 0, row.length);
        }
    }

    private void makeTameRules(int count) {
        for (int k = 0; k < count; k++) {
            StringBuilder text = new StringBuilder();
            for (int c = 0; c < 4; c++) {
                text.append(c == 0 ? "" : ",").append(below(6) == 0 ? "!" : "");
                text.append("nvao".charAt(below(4))).append('+').append("nvao".charAt(below(4)));
            }
            layTame(text.chars().toArray());
            call("rule", -1, 0, 999, 0, 2, 0, text.length());
        }
    }

    /** Enough to begin with that what is rare comes up: long rows with many WAYS, PAIRS that are near. */
    private void prepare(int part) {
        if (part == 0) {
            int least = 1 + below(4);
            makeTameRoots(2 + below(15), least, Math.max(least, 1 + below(4)));
            makeTameEndings(below(9));
            makeTameRules(below(8));
            readTwo();
            for (int k = 0; k < 4; k++) {
                int[] row = tame(1, 20);
                layTame(row);
                call("ways", 0, 2, 0, row.length);
                for (int at = 0; at < 6; at++) call("parse", 0, 2, 0, row.length, at);
            }
        }
        if (part == 2 || part == 3) {
            for (int k = 0; k < 12; k++) call("person", below(4));
            makeTameRoots(part == 2 ? 4 : 16, 1, part == 2 ? 4 : 3);
            for (int k = 0; k < 20; k++) call("learn", person(), root(), true);
        }
        if (part == 2) for (int k = 0; k < 3; k++) call("journal", set(12) & set(12) & set(12), set(12) & set(12));
    }

    private void run() {
        int part = below(9);
        if (below(4) > 0) prepare(part);
        for (int turn = 0; turn < CALLS && done.size() < CALLS; turn++) {
            step(part >= 7 ? below(7) : rarely() ? 6 : part);
            if (below(3) == 0) call("fault");
            if (rarely()) call("many", wildOr(below(11)));
        }
    }

    public static void main(String[] args) {
        int runs = args.length > 0 ? Integer.parseInt(args[0]) : 1500;
        long from = args.length > 1 ? Long.parseLong(args[1]) : 0;
        int wrong = 0;
        long calls = 0;
        for (int seed = 0; seed < runs && wrong < 3; seed++) {
            AgainstPlainTest test = new AgainstPlainTest(from + seed);
            test.run();
            wrong += test.wrong;
            calls += test.done.size();
        }
        System.out.println("AgainstPlainTest: " + calls + " calls, " + wrong + " not alike");
        if (wrong != 0) System.exit(1);
    }
}
