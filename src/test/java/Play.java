import java.lang.reflect.Method;
import java.lang.reflect.Modifier;
import java.util.HashMap;
import java.util.List;
import java.util.Map;

/** One object and the calls on it, told as texts: "root(0, 0, 2, 2, 4, 1)"; MIN and MAX are the least int and the greatest. */
final class Play {
    /** The document promises nothing behind so many calls, so no test may ask for more. */
    static final int MOST_CALLS = 512;

    private record Asked(Method method, Object[] given) { }

    private static final Map<String, Method> METHODS = new HashMap<>();
    private static final Map<String, Asked> READ = new HashMap<>();

    static {
        for (Method m : MadeTongue.class.getDeclaredMethods()) if (Modifier.isPublic(m.getModifiers())) METHODS.put(m.getName(), m);
    }

    private final MadeTongue tongue = new MadeTongue();
    private int calls;

    static String nameOf(String call) {
        return call.substring(0, call.indexOf('('));
    }

    static int number(String word) {
        if (word.equals("MIN")) return Integer.MIN_VALUE;
        if (word.equals("MAX")) return Integer.MAX_VALUE;
        return Integer.parseInt(word);
    }

    private static Asked read(String call) {
        String inside = call.substring(call.indexOf('(') + 1, call.lastIndexOf(')')).trim();
        String[] words = inside.isEmpty() ? new String[0] : inside.split(",\\s*");
        Object[] given = new Object[words.length];
        for (int k = 0; k < words.length; k++) {
            boolean truth = words[k].equals("true") || words[k].equals("false");
            given[k] = truth ? (Object) Boolean.valueOf(words[k]) : (Object) number(words[k]);
        }
        Method method = METHODS.get(nameOf(call));
        if (method == null || method.getParameterCount() != given.length) throw new IllegalStateException("no such call: " + call);
        return new Asked(method, given);
    }

    /** What a call answers; one that throws is no answer, and ends the test. */
    long ask(String call) {
        if (++calls > MOST_CALLS) throw new IllegalStateException("more than " + MOST_CALLS + " calls, at " + call);
        Asked asked = READ.computeIfAbsent(call, Play::read);
        try {
            return ((Number) asked.method.invoke(tongue, asked.given)).longValue();
        } catch (ReflectiveOperationException e) {
            throw new IllegalStateException(call + " threw " + e.getCause(), e);
        }
    }

    /** Calls whose answers are looked at elsewhere. */
    Play through(List<String> told) {
        for (String call : told) ask(call);
        return this;
    }
}
