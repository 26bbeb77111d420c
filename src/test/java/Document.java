import java.io.IOException;
import java.io.UncheckedIOException;
import java.nio.file.Files;
import java.nio.file.Path;
import java.util.ArrayList;
import java.util.BitSet;
import java.util.LinkedHashMap;
import java.util.List;
import java.util.Map;
import java.util.regex.Matcher;
import java.util.regex.Pattern;

/**
 * DOC.md in sections ("What it is", "The public face", "Terms", "Terms 1" to "Terms 4", "Promise 1"
 * to "Promise 20"), each with the words of it that were quoted so far.
 */
final class Document {
    private static final Path FILE = Path.of("../shared/DOC.md");
    private static final Pattern HEADING = Pattern.compile("## (What it is|The public face|Terms|Promise \\d+).*");
    private static final Pattern NUMBERED_TERM = Pattern.compile("==== (\\d) (.*)");
    private static final Pattern SIGNATURE = Pattern.compile("`(int )?\\w+\\([^)]*\\)`: ");

    private final Map<String, StringBuilder> texts = new LinkedHashMap<>();
    private final Map<String, BitSet> quoted = new LinkedHashMap<>();

    Document() {
        String section = null;
        for (String line : lines()) {
            Matcher heading = HEADING.matcher(line);
            Matcher term = NUMBERED_TERM.matcher(line);
            if (line.startsWith("## ")) {
                section = heading.matches() ? heading.group(1) : null;
            } else if (term.matches()) {
                section = "Terms " + term.group(1);
                add(section, term.group(2));
            } else if (section != null && !line.isBlank() && !line.startsWith("```")) {
                add(section, SIGNATURE.matcher(line).replaceFirst("").trim());
            }
        }
    }

    private static List<String> lines() {
        try {
            return Files.readAllLines(FILE);
        } catch (IOException unreadable) {
            throw new UncheckedIOException(unreadable);
        }
    }

    private void add(String section, String words) {
        texts.computeIfAbsent(section, name -> new StringBuilder()).append(words).append(' ');
        quoted.computeIfAbsent(section, name -> new BitSet());
    }

    void quote(String section, String words) {
        String text = texts.getOrDefault(section, new StringBuilder()).toString();
        int from = text.indexOf(words);
        if (from < 0 || text.indexOf(words, from + 1) >= 0) {
            throw new IllegalStateException(section + " does not have these words, or not once: " + words);
        }
        quoted.get(section).set(from, from + words.length());
    }

    /** What no test has quoted, a row for each stretch of words. */
    List<String> unquoted() {
        List<String> found = new ArrayList<>();
        for (String section : texts.keySet()) {
            StringBuilder rest = texts.get(section);
            for (int i = 0; i < rest.length(); i++) {
                if (quoted.get(section).get(i)) {
                    rest.setCharAt(i, '\n');
                }
            }
            for (String stretch : rest.toString().split("\n+")) {
                if (stretch.matches(".*\\w.*")) {
                    found.add(section + ": " + stretch.trim());
                }
            }
        }
        return found;
    }
}
