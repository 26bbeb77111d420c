import java.io.IOException;
import java.lang.reflect.Field;
import java.lang.reflect.Method;
import java.lang.reflect.Modifier;
import java.nio.file.Files;
import java.nio.file.Path;
import java.util.ArrayList;
import java.util.HashMap;
import java.util.List;
import java.util.Map;
import java.util.Set;
import java.util.TreeSet;
import java.util.regex.Matcher;
import java.util.regex.Pattern;
import java.util.stream.Stream;

/** README.md: its examples answer what they show, and its tables are of the class and of these tests. */
public final class ReadmeTest {
    private static final Path README = Path.of("README.md");
    private static final Path TESTS = Path.of("src/test/java");
    private static final Pattern EXAMPLE = Pattern.compile("(?s)```java\n(.*?)```");
    private static final Pattern LINE =
        Pattern.compile("(?:int (\\w+) = )?memory\\.(\\w+)\\(([^)]*)\\); +// (-?\\d+)(?: ([A-Z]+))?(?:: .*)?");
    private static final String NEW_OBJECT = "LockLookMemory memory = new LockLookMemory();";
    private static final List<String> PHASES = List.of(
        "OPEN", "LOCKING", "LOOKING", "BACKING", "WRITING", "CLEANING", "UNLOCKING", "COMMITTED", "ABORTED");
    private static final Set<String> ANSWERED_BY_PHASE = Set.of("commit", "drop", "step", "about");

    private final Play play = new Play();
    private final Set<String> played = new TreeSet<>();
    private final String text;

    private ReadmeTest(String text) {
        this.text = text;
    }

    public static void main(String[] args) throws IOException, IllegalAccessException {
        ReadmeTest test = new ReadmeTest(Files.readString(README));
        test.examples();
        test.calls();
        test.constants();
        test.phases();
        test.testsAreNamed();
        test.play.end();
    }

    private void expect(String what, boolean holds) {
        play.due("README.md", what, holds ? 1 : 0, 1);
    }

    private void examples() {
        Matcher example = EXAMPLE.matcher(text);
        while (example.find()) {
            String[] lines = example.group(1).split("\n");
            expect("an example begins with a new object: " + lines[0], lines[0].equals(NEW_OBJECT));
            List<String> run = new ArrayList<>();
            Map<String, String> names = new HashMap<>();
            for (int i = 1; i < lines.length; i++) {
                run.add(asRun(lines[i], names));
            }
            play.run("README.md", run.toArray(new String[0]));
        }
    }

    /** The line as Play reads it, with the answers in place of the names that were given to them. */
    private String asRun(String line, Map<String, String> names) {
        Matcher matcher = LINE.matcher(line);
        if (!matcher.matches()) {
            throw new IllegalStateException("README.md: not a call with its answer: " + line);
        }
        List<String> arguments = new ArrayList<>();
        for (String argument : matcher.group(3).split(", *")) {
            arguments.add(names.getOrDefault(argument, argument.replace("LockLookMemory.", "")));
        }
        String name = matcher.group(1);
        if (name != null) {
            expect(name + " is given once in an example", names.put(name, matcher.group(4)) == null);
        }
        played.add(matcher.group(2));
        nameOfAnswer(line, matcher);
        return matcher.group(2) + "(" + String.join(", ", arguments) + ") = " + matcher.group(4);
    }

    private void nameOfAnswer(String line, Matcher matcher) {
        String word = matcher.group(5);
        if (word == null) {
            return;
        }
        int answer = Integer.parseInt(matcher.group(4));
        boolean isPhase = ANSWERED_BY_PHASE.contains(matcher.group(2)) && answer >= 0;
        expect(line, isPhase ? PHASES.indexOf(word) == answer : constant(word) == answer);
    }

    private static int constant(String name) {
        try {
            return LockLookMemory.class.getField(name).getInt(null);
        } catch (ReflectiveOperationException missing) {
            throw new IllegalStateException("README.md: no constant of the class: " + name, missing);
        }
    }

    private void calls() {
        for (Method method : LockLookMemory.class.getDeclaredMethods()) {
            if (Modifier.isPublic(method.getModifiers())) {
                String name = method.getName();
                expect(name + " is in an example", played.contains(name));
                Matcher row = Pattern.compile("\\| `" + name + "\\(([^)]*)\\)` \\|").matcher(text);
                expect(name + " has a row with its arguments",
                    row.find() && arguments(row.group(1)) == method.getParameterCount());
            }
        }
    }

    private static int arguments(String told) {
        return told.isEmpty() ? 0 : told.split(", ").length;
    }

    private void constants() throws IllegalAccessException {
        for (Field field : LockLookMemory.class.getFields()) {
            String row = "| `" + field.getName() + "` | " + field.getInt(null) + " |";
            expect("there is a row " + row, text.contains(row));
        }
    }

    private void phases() throws IOException {
        List<String> numbered = new ArrayList<>();
        for (int phase = 0; phase < PHASES.size(); phase++) {
            numbered.add(phase + " " + PHASES.get(phase));
        }
        String row = String.join(", ", numbered) + ".";
        expect("the phases are told", text.contains("Phases: " + row));
        expect("the phases are the document's", Files.readString(Path.of("../shared/DOC.md")).contains("a PHASE: " + row));
    }

    private void testsAreNamed() throws IOException {
        Set<String> files = new TreeSet<>();
        try (Stream<Path> paths = Files.list(TESTS)) {
            paths.map(path -> path.getFileName().toString().replace(".java", ""))
                .filter(name -> name.endsWith("Test")).forEach(files::add);
        }
        Set<String> named = new TreeSet<>();
        Matcher matcher = Pattern.compile("`(\\w+Test)`").matcher(text);
        while (matcher.find()) {
            named.add(matcher.group(1));
        }
        expect("it names " + files + ", not " + named, files.equals(named));
    }
}
