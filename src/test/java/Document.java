import java.io.IOException;
import java.nio.charset.StandardCharsets;
import java.nio.file.Files;
import java.nio.file.Path;
import java.util.ArrayList;
import java.util.LinkedHashMap;
import java.util.List;
import java.util.Map;

/** The document's words, so that each tested sentence is one of it, and none of it is left out. */
final class Document {
    private static final Path FILE = Path.of("../shared/DOC.md");

    private final Map<String, String> sections = new LinkedHashMap<>();
    private final Map<String, boolean[]> quoted = new LinkedHashMap<>();

    Document() throws IOException {
        String title = "";
        for (String line : Files.readAllLines(FILE, StandardCharsets.UTF_8)) {
            if (line.startsWith("## ")) title = titled(line.substring(3));
            else if (isOfPromises(line)) sections.merge(title, line.strip(), (a, b) -> a + " " + b);
        }
        sections.forEach((name, words) -> quoted.put(name, new boolean[words.length()]));
    }

    static boolean isThere() {
        return Files.isReadable(FILE);
    }

    // "Promise 2: row" is asked for by its number.
    private static String titled(String heading) {
        return heading.startsWith("Promise ") ? heading.substring(8, heading.indexOf(':')) : heading;
    }

    private static boolean isOfPromises(String line) {
        return !line.isBlank() && !line.startsWith("```") && !line.startsWith("Ahead of the calls");
    }

    /** Whether a section has these words; they count as tested then. */
    boolean has(String section, String words) {
        String text = sections.getOrDefault(section, "");
        int i = text.indexOf(words);
        if (i < 0 || words.isEmpty()) return false;
        while (i >= 0) {
            for (int k = i; k < i + words.length(); k++) quoted.get(section)[k] = true;
            i = text.indexOf(words, i + 1);
        }
        return true;
    }

    /** What stands between two stops or semicolons of the terms or of a promise and was not quoted. */
    List<String> untested() {
        List<String> untested = new ArrayList<>();
        sections.forEach((name, text) -> {
            if (!name.equals("Terms") && !name.matches("[0-9]+")) return;
            int from = text.startsWith("`") ? text.indexOf("`:") + 2 : 0;
            for (int i = from; i <= text.length(); i++) {
                if (i < text.length() && !isEnd(text, i)) continue;
                String words = text.substring(from, i).strip();
                if (words.matches(".*[A-Za-z].*") && !isQuoted(name, from, i)) untested.add(name + ": " + words);
                from = i + 1;
            }
        });
        return untested;
    }

    private static boolean isEnd(String text, int i) {
        char sign = text.charAt(i);
        if (sign == ';') return true;
        boolean within = i + 1 < text.length() && text.charAt(i + 1) == '.' || i > 0 && text.charAt(i - 1) == '.';
        return sign == '.' && !within;
    }

    private boolean isQuoted(String section, int from, int till) {
        for (int i = from; i < till; i++) if (quoted.get(section)[i]) return true;
        return false;
    }
}
