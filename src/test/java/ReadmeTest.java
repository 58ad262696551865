import java.io.IOException;
import java.lang.invoke.MethodHandles;
import java.lang.reflect.Method;
import java.lang.reflect.Modifier;
import java.nio.file.Files;
import java.nio.file.Path;
import java.util.ArrayList;
import java.util.List;
import java.util.Set;
import java.util.TreeSet;
import java.util.regex.Matcher;
import java.util.regex.Pattern;
import javax.tools.ToolProvider;

/**
 * The examples of README.md, each as it stands there: they compile, each call answers what stands behind it, and every
 * call of the face is shown.
 */
public final class ReadmeTest {
    private static final Check c = new Check();
    private static final Path README = Path.of("README.md");
    private static final String BEGINNING = "MadeTongue tongue = new MadeTongue();";
    private static final Pattern EXAMPLE = Pattern.compile("(?s)```java\n(.*?)```");
    /** A call, perhaps kept under a name; its answer, and perhaps what that means. */
    private static final Pattern LINE =
        Pattern.compile("(?:(?:int|long) (\\w+) = )?(tongue\\.(\\w+)\\([^()]*\\)); +// (-?\\d+|[A-Z]+)(?:: .*)?");

    private static final Set<String> shown = new TreeSet<>();

    public static void main(String[] args) throws Exception {
        List<String> bodies = new ArrayList<>();
        Matcher examples = EXAMPLE.matcher(Files.readString(README));
        while (examples.find()) bodies.add(bodyOf(examples.group(1)));
        c.due("there are examples", bodies.size() > 0);
        run(sourceOf(bodies));
        for (Method m : MadeTongue.class.getDeclaredMethods()) {
            if (Modifier.isPublic(m.getModifiers())) c.due(m.getName() + " is shown", shown.contains(m.getName()));
        }
        c.end("ReadmeTest");
    }

    /** An example as the body of a method; what is no call with an answer is told as wrong. */
    private static String bodyOf(String example) {
        StringBuilder body = new StringBuilder();
        for (String line : example.split("\n")) {
            Matcher call = LINE.matcher(line);
            if (call.matches()) {
                shown.add(call.group(3));
                body.append(call.group(1) == null ? "" : line + "\n").append(dueOf(call)).append('\n');
            } else {
                c.due("begins an object, or is a call with its answer: " + line, line.equals(BEGINNING));
                body.append(line).append('\n');
            }
        }
        return body.toString();
    }

    private static String dueOf(Matcher call) {
        String got = call.group(1) == null ? call.group(2) : call.group(1);
        return "c.due(\"" + call.group(2) + "\", " + got + ", " + valueOf(call.group(4)) + ");";
    }

    private static String valueOf(String answer) {
        return Character.isLetter(answer.charAt(0)) ? "MadeTongue." + answer : answer + "L";
    }

    private static String sourceOf(List<String> bodies) {
        StringBuilder source = new StringBuilder("final class Shown {\n");
        for (int k = 0; k < bodies.size(); k++) {
            source.append("static void example").append(k).append("(Check c) {\n").append(bodies.get(k)).append("}\n");
        }
        return source.append("}\n").toString();
    }

    private static void run(String source) throws IOException, ReflectiveOperationException {
        Path place = Files.createTempDirectory("readme");
        Path file = place.resolve("Shown.java");
        Files.writeString(file, source);
        String classes = System.getProperty("java.class.path");
        int failed = ToolProvider.getSystemJavaCompiler().run(null, null, null, "-cp", classes, "-d", place.toString(), file.toString());
        c.due("the examples compile", failed, 0);
        if (failed == 0) {
            for (Method example : compiledIn(place)) {
                example.setAccessible(true);
                example.invoke(null, c);
            }
        }
        for (Path left : List.of(file, place.resolve("Shown.class"), place)) Files.deleteIfExists(left);
    }

    /** What was compiled calls Check, which is open to its own package and loader alone: so it is read into ours. */
    private static Method[] compiledIn(Path place) throws IOException, ReflectiveOperationException {
        byte[] code = Files.readAllBytes(place.resolve("Shown.class"));
        return MethodHandles.lookup().defineClass(code).getDeclaredMethods();
    }
}
