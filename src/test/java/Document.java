import java.io.IOException;
import java.nio.file.Files;
import java.nio.file.Path;
import java.util.ArrayList;
import java.util.LinkedHashMap;
import java.util.List;
import java.util.Map;
import java.util.regex.Matcher;
import java.util.regex.Pattern;

/** The document, and which of its words tests were written for. */
final class Document {
    static final String TERMS = "Terms", WHAT = "What it is";

    /** Words by which a boundary is named: refusals, FAULTS, what is none, and numbers. */
    private static final Pattern NAMING = Pattern.compile("\\b(UNKNOWN|OUTSIDE|STATE|FULL|NONE|NULL|CAST|INDEX|SIZE|LOST|\\d+)\\b");

    private final Map<String, String> texts = new LinkedHashMap<>();
    private final Map<String, boolean[]> quoted = new LinkedHashMap<>();

    Document(Path path) throws IOException {
        for (String part : Files.readString(path).split("(?m)^## ")) {
            int end = part.indexOf('\n');
            if (end < 0) continue;
            String title = part.substring(0, end).trim();
            String text = plain(part.substring(end));
            texts.put(title.startsWith("Promise ") ? title.substring(8, title.indexOf(':')) : title, text);
        }
        texts.forEach((title, text) -> quoted.put(title, new boolean[text.length()]));
    }

    /** Less what is no sentence: signs of the text's form, each call's face, the numbers of the parts. */
    private static String plain(String text) {
        return text.replaceAll("```(text|java)?", " ").replaceAll("`[^`\n]*`:", " ").replaceAll("==== \\d", " ")
            .replaceAll("Ahead of the calls[^\n]*", " ").replaceAll("\\s+", " ");
    }

    int promises() {
        return (int) texts.keySet().stream().filter(title -> title.matches("\\d+")).count();
    }

    /** Words of the document, where they stand first without having been quoted; false, if they do not stand there. */
    boolean quote(String title, String words) {
        String text = texts.getOrDefault(title, "");
        int at = text.indexOf(words);
        if (at < 0) return false;
        boolean[] marks = quoted.get(title);
        int open = at;
        while (open >= 0 && marks[open]) open = text.indexOf(words, open + 1);
        int from = open >= 0 ? open : at;
        for (int k = from; k < from + words.length(); k++) marks[k] = true;
        return true;
    }

    /** Promises of which no test has quoted a word. */
    List<String> neverQuoted() {
        List<String> left = new ArrayList<>();
        quoted.forEach((title, marks) -> {
            boolean any = false;
            for (boolean mark : marks) any |= mark;
            if (title.matches("\\d+") && !any) left.add(title);
        });
        return left;
    }

    /** Where Terms and promises name a boundary that no test has quoted. */
    List<String> leftOut() {
        List<String> left = new ArrayList<>();
        texts.forEach((title, text) -> {
            if (!title.equals(TERMS) && !title.equals(WHAT) && !title.matches("\\d+")) return;
            Matcher named = NAMING.matcher(text);
            while (named.find()) {
                if (quoted.get(title)[named.start()]) continue;
                int to = Math.min(text.length(), named.end() + 30);
                left.add(title + ": " + text.substring(named.start(), to));
            }
        });
        return left;
    }
}
