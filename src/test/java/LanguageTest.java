import java.io.IOException;
import java.lang.management.ManagementFactory;
import java.lang.reflect.Constructor;
import java.lang.reflect.Field;
import java.lang.reflect.Method;
import java.lang.reflect.Modifier;
import java.nio.file.Files;
import java.nio.file.Path;
import java.util.ArrayList;
import java.util.Arrays;
import java.util.HashSet;
import java.util.List;
import java.util.Random;
import java.util.Set;
import java.util.TreeSet;
import java.util.regex.Matcher;
import java.util.regex.Pattern;
import java.util.stream.Collectors;

/**
 * The face as the document has it, and the rules of LANGUAGE.md that can be seen from outside or in the text;
 * wild calls, also behind the 512th, throw nothing; a run makes nothing but its object.
 */
public final class LanguageTest {
    private static final Check c = new Check();
    private static final Path SOURCE = Path.of("src/main/java/MadeTongue.java");
    private static final Path DOCUMENT = Path.of("../shared/DOC.md");

    public static void main(String[] args) throws Exception {
        face();
        members();
        text();
        lengthsOfMethods();
        wildCalls();
        nothingIsMade();
        c.end("LanguageTest");
    }

    private static String told(Method m) {
        String types = Arrays.stream(m.getParameterTypes()).map(Class::getSimpleName).collect(Collectors.joining(", "));
        return m.getReturnType().getSimpleName() + " " + m.getName() + "(" + types + ")";
    }

    private static void face() throws IOException {
        String document = Files.readString(DOCUMENT);
        String block = document.substring(document.indexOf("```java"), document.indexOf("## Terms"));
        Set<String> due = new TreeSet<>();
        Matcher lines = Pattern.compile("public (int|long) (\\w+)\\((.*)\\);").matcher(block);
        while (lines.find()) {
            String types = Arrays.stream(lines.group(3).split(", ")).map(p -> p.split(" ")[0]).collect(Collectors.joining(", "));
            due.add(lines.group(1) + " " + lines.group(2) + "(" + types + ")");
        }
        Set<String> got = new TreeSet<>();
        for (Method m : MadeTongue.class.getDeclaredMethods()) if (Modifier.isPublic(m.getModifiers())) got.add(told(m));
        c.due("the document's methods", due.size(), 54);
        c.due("the face " + got, got.equals(due));
        c.due("the class is public and final", Modifier.isPublic(MadeTongue.class.getModifiers())
            && Modifier.isFinal(MadeTongue.class.getModifiers()));
        Constructor<?>[] constructors = MadeTongue.class.getDeclaredConstructors();
        c.due("one constructor", constructors.length, 1);
        c.due("it is public, and takes nothing", Modifier.isPublic(constructors[0].getModifiers())
            && constructors[0].getParameterCount() == 0);
    }

    private static List<Class<?>> classes() {
        List<Class<?>> all = new ArrayList<>(List.of(MadeTongue.class));
        all.addAll(Arrays.asList(MadeTongue.class.getDeclaredClasses()));
        return all;
    }

    private static void members() {
        Set<String> constants = Set.of("UNKNOWN", "OUTSIDE", "STATE", "FULL", "NONE", "LOST");
        for (Field f : MadeTongue.class.getDeclaredFields()) {
            c.due("field " + f.getName(), Modifier.isPublic(f.getModifiers()) == constants.contains(f.getName()));
            c.due("field " + f.getName(), Modifier.isPublic(f.getModifiers()) || Modifier.isPrivate(f.getModifiers()));
        }
        Set<String> open = new HashSet<>();
        for (Method m : MadeTongue.class.getDeclaredMethods()) {
            if (Modifier.isPublic(m.getModifiers())) open.add(m.getName());
            c.due("method " + m.getName(), Modifier.isPublic(m.getModifiers()) || Modifier.isPrivate(m.getModifiers()));
        }
        c.due("classes", classes().size() <= 12);
        for (Class<?> type : classes()) {
            int fields = 0;
            for (Field f : type.getDeclaredFields()) {
                if (Modifier.isStatic(f.getModifiers())) c.due("constant " + f.getName(), Modifier.isFinal(f.getModifiers()));
                else fields++;
            }
            c.due("fields of " + type.getSimpleName(), fields <= 20);
            if (type != MadeTongue.class) c.due("static " + type.getSimpleName(), Modifier.isStatic(type.getModifiers()));
            for (Method m : type.getDeclaredMethods()) {
                c.due("parameters of " + m.getName(), m.getParameterCount() <= 7);
                if (type != MadeTongue.class) c.due("name " + m.getName() + " is free", !open.contains(m.getName()));
            }
        }
    }

    private static String code() throws IOException {
        return Files.readString(SOURCE).replaceAll("(?s)/\\*.*?\\*/", "").replaceAll("//[^\n]*", "");
    }

    private static void text() throws IOException {
        String code = code();
        String[] none = {"\\bthrow\\b", "\\bthrows\\b", "\\btry\\b", "\\bcatch\\b", "\\bsynchronized\\b", "\\bassert\\b", "\\bimport\\b",
            "\\bpackage\\b", "->", "::", "\\bdouble\\b", "\\bfloat\\b", "Exact\\b", "\\bequals\\b", "\\bhashCode\\b", "\\btoString\\b",
            "\\bstatic\\s*\\{", "\\bprotected\\b", "\\bThread\\b", "currentTimeMillis", "nanoTime", "\\bRandom\\b", "\\bList\\b", "\\bString\\b"};
        for (String word : none) c.due("none of " + word, !Pattern.compile(word).matcher(code).find());
        c.due("signs are 1 to 127", code.chars().allMatch(sign -> sign < 128));
        for (String line : code.split("\n")) {
            if (!line.contains("new ")) continue;
            boolean field = line.matches("        private final (int|long)\\[\\] \\w+ = new (int|long)\\[[^;]*;");
            boolean inConstructor = line.matches("        (\\w+ )?\\w+ = new [A-Z]\\w+\\((made)?\\);");
            c.due("made as an object begins: " + line.trim(), field || inConstructor);
        }
    }

    private static void lengthsOfMethods() throws IOException {
        String[] lines = Files.readString(SOURCE).split("\n");
        int from = -1, depth = 0;
        for (int at = 0; at < lines.length; at++) {
            boolean opens = lines[at].matches("( {4}| {8})\\S.*\\) \\{");
            if (opens && from < 0) {
                from = at;
                depth = lines[at].length() - lines[at].stripLeading().length();
            }
            if (from >= 0 && lines[at].equals(" ".repeat(depth) + "}")) {
                c.due("lines of " + lines[from].trim(), at - from < 60);
                from = -1;
            }
            c.due("length of line " + (at + 1), lines[at].length() <= 130);
        }
    }

    private static void wildCalls() throws Exception {
        int[] wild = {Integer.MIN_VALUE, Integer.MAX_VALUE, -1, 0, 1, 2, 3, 4, 7, 15, 16, 20, 59, 60, 61, 999, 1000, 1 << 30};
        List<Method> methods = Arrays.stream(MadeTongue.class.getDeclaredMethods())
            .filter(m -> Modifier.isPublic(m.getModifiers())).sorted((a, b) -> told(a).compareTo(told(b))).toList();
        Random random = new Random(7);
        for (int run = 0; run < 40; run++) {
            MadeTongue x = new MadeTongue();
            for (int call = 0; call < 4000; call++) {
                Method m = methods.get(random.nextInt(methods.size()));
                Object[] given = new Object[m.getParameterCount()];
                for (int k = 0; k < given.length; k++) {
                    if (m.getParameterTypes()[k] == boolean.class) given[k] = random.nextBoolean();
                    else given[k] = random.nextInt(run + 2) == 0 ? wild[random.nextInt(wild.length)] : random.nextInt(5);
                }
                m.invoke(x, given);
            }
        }
        c.due("wild calls ended", true);
    }

    private static int callsOfEachKind(MadeTongue x) {
        int sum = 0;
        for (int k = 0; k < 12; k++) sum += x.person(k % 4);
        for (int k = 0; k < 8; k++) {
            sum += x.sheet(0, 2, 3) + x.put(0, 0, 1 + k) + x.put(0, 1, 43) + x.put(0, 2, 2);
            sum += x.root(k % 3, k % 4, 0, 2, 0, 1) + x.put(0, 1, k + 2) + x.root(k % 3, k % 4, 0, 2, 0, 2);
            sum += x.ending(k % 4, 3 - k % 4, 0, 2, 0, 1) + x.tongue(k % 4, 0, 0, 2, 0, 2) + x.put(0, 1, 43);
            sum += x.put(0, 0, 110) + x.put(0, 2, 118) + x.rule(-1, 0, 9, 0, 2, 0, 3) + x.put(0, 0, 1) + x.put(0, 1, 1) + x.put(0, 2, 1);
            sum += x.ways(0, 2, 0, 3) + x.parse(0, 2, 0, 3, 1) + x.stand(1, k) + x.two(0) + x.may(0, 1) + x.why(0, 1);
            sum += x.sentence(0, 2, 0, 1) + x.mean(0, k, k, 0) + x.differ(0, 0, 1) + x.worlds(0, 0) + x.isTrue(0, 0, 9) + x.world(99, 1);
            sum += x.learn(k, k, true) + x.journal(1 << k, 255) + x.month() + (int) x.reform(k, 0, 0, 2, 0, 3) + x.heard(1, 1);
            sum += x.body(15, 3, 5) + x.vote(0, 0, 3) + x.letters(k, k + 1, 9) + x.part(0, 11, 0) + x.pair(k, 15 - k) + x.keep(0);
            sum += x.session(7) + x.hall(3, 4) + x.table(0) + x.road(k, k + 1, true) + x.letter(0, 8) + x.round(0) + x.seats();
            sum += x.copy(0, 0, 0, 1, 2) + (int) x.cell(0, 0, 2) + x.tell(k) + x.say(k) + x.as(k, 1) + x.trace() + x.fault() + x.lose(1);
        }
        return sum;
    }

    private static void nothingIsMade() {
        com.sun.management.ThreadMXBean bean = (com.sun.management.ThreadMXBean) ManagementFactory.getThreadMXBean();
        for (int warm = 0; warm < 20; warm++) callsOfEachKind(new MadeTongue());
        MadeTongue x = new MadeTongue();
        long least = Long.MAX_VALUE;
        for (int turn = 0; turn < 5; turn++) {
            long before = bean.getCurrentThreadAllocatedBytes();
            callsOfEachKind(x);
            least = Math.min(least, bean.getCurrentThreadAllocatedBytes() - before);
        }
        c.due("calls make nothing, but made bytes: " + least, least < 256);
        long before = bean.getCurrentThreadAllocatedBytes();
        MadeTongue[] kept = new MadeTongue[100];
        for (int k = 0; k < kept.length; k++) kept[k] = new MadeTongue();
        long each = (bean.getCurrentThreadAllocatedBytes() - before) / kept.length;
        c.due("an object is small, but has bytes: " + each, each < 30000);
    }
}
