import java.io.IOException;
import java.io.UncheckedIOException;
import java.nio.file.Files;
import java.nio.file.Path;
import java.util.ArrayList;
import java.util.List;
import java.util.regex.Matcher;
import java.util.regex.Pattern;

/** What it is; the public face; and what the interface says ahead of its calls, at the end of Terms 4. */
final class FaceEdges {
    private final Sentences s;

    FaceEdges(Sentences sentences) {
        s = sentences;
    }

    void play() {
        s.in("What it is");
        whatItIs();
        s.in("The public face");
        thePublicFace();
        s.in("Terms 4");
        theInterface();
    }

    private void whatItIs() {
        String memory = "A memory of several machines in which transactions commit without waiting for one another:";
        String words = "they lock what they write, look again at what they read, write records to all backups, then to the primaries;";
        s.test(memory, "two side by side, ACT by ACT",
            "region(0, 1, NONE) = 0; begin(4) = 0; begin(5) = 1; write(0, 0, 0, 5) = 1; write(1, 0, 1, 6) = 1; commit(0) = 1",
            "commit(1) = 1; step(0) = 3; step(1) = 3; step(1) = 4; step(0) = 4; step(0) = 5; step(1) = 5; step(1) = 7",
            "step(0) = 7");
        s.test(memory, "of two that want the same one gives up, and none waits",
            "region(0, 1, NONE) = 0; begin(4) = 0; begin(5) = 1; write(0, 0, 0, 5) = 1; write(1, 0, 0, 6) = 1; commit(0) = 1",
            "commit(1) = 1; step(1) = 3; step(0) = 8; run(1, 100) = 3; about(1, 0) = 7");
        s.test(words, "all backups ahead of all primaries",
            "region(0, 1, NONE) = 0; region(2, 3, NONE) = 1; begin(4) = 0; read(0, 0, 1) = 0; write(0, 0, 0, 5) = 1",
            "write(0, 1, 0, 6) = 2; commit(0) = 1; run(0, 2) = 2; count(7) = 2; about(0, 0) = 2; step(0) = 3; run(0, 2) = 2",
            "count(8) = 2; object(0, 0, 0, 1) = 0; object(1, 0, 0, 1) = 0; run(0, 2) = 2; object(0, 0, 0, 1) = 1",
            "object(1, 0, 0, 1) = 1");
        String gone = "machines that are gone are found by a new configuration, "
            + "in which what was under way is decided by the votes of what is left.";
        s.test(gone, "not found ahead of it",
            "region(0, 1, NONE) = 0; begin(4) = 0; write(0, 0, 0, 5) = 1; commit(0) = 1; run(0, 2) = 2; fail(0) = 5",
            "copyAt(0, 0) = 0; step(0) = WAITS; about(0, 0) = 4; configure() = 1; copyAt(0, 0) = 1; about(0, 0) = 7",
            "object(0, 0, 0, 0) = 5");
        String calls = "An object is used for at most 512 calls after it has been made; what later calls answer is free.";
        s.test(calls, "as many questions as it is used for", Sentences.each(1, 511, "count(4) = 6"), "fail(0) = 5");
        s.test(calls, "sixty transactions, each of them COMMITTED, by the 512th call",
            "region(0, 1, 2) = 0",
            Sentences.each(0, 59, "begin(5) = #; read(#, 0, 0) = 0; commit(#) = 2; step(#) = 7"),
            Sentences.each(0, 59, "read(#, 0, 0) = STATE; about(#, 0) = 7; item(#, 0, 1) = 0; begin(5) = FULL"),
            Sentences.each(1, 29, "count(5) = 60"), "about(59, 5) = 60; check() = NONE");
    }

    private void thePublicFace() {
        inSource("public final class LockLookMemory {");
        inSource("public static final int UNKNOWN = -1, OUTSIDE = -2, STATE = -3, FULL = -4, LOST = -5, WAITS = -6, NONE = -9;");
        inSource("public LockLookMemory();");
        inSource("public int region(int a, int b, int c);");
        inSource("public int fail(int machine);");
        inSource("public int configure();");
        inSource("public int copy(int region, int machine);");
        inSource("public int machine(int machine, int what);");
        inSource("public int copyAt(int region, int i);");
        inSource("public int object(int region, int i, int object, int what);");
        inSource("public int begin(int machine);");
        inSource("public int read(int transaction, int region, int object);");
        inSource("public int write(int transaction, int region, int object, int value);");
        inSource("public int commit(int transaction);");
        inSource("public int drop(int transaction);");
        inSource("public int step(int transaction);");
        inSource("public int run(int transaction, int n);");
        inSource("public int about(int transaction, int what);");
        inSource("public int item(int transaction, int i, int what);");
        inSource("public int check();");
        inSource("public int unlike();");
        inSource("public int count(int what);");
        s.due("public final class LockLookMemory {", "nothing else in the class is public",
            Pattern.compile("\\bpublic\\b").matcher(source()).results().count(), 22);
    }

    /** The line stands in the class once, a call's with its body in place of the semicolon. */
    private void inSource(String line) {
        String due = "\n *" + Pattern.quote(line.replace(");", ") {")) + "\n";
        s.due(line, "in the class's own text", Pattern.compile(due).matcher(source()).results().count(), 1);
    }

    private void theInterface() {
        List<String> found = headings();
        s.due("Ahead of the calls `region`, `fail`, `configure`, `copy`, `machine`, `copyAt`, `object` "
            + "the interface says: ---- machines, regions.", "in the class's own text",
            found.indexOf("machines, regions region fail configure copy machine copyAt object"), 0);
        s.due("Ahead of the calls `begin`, `read`, `write`, `commit`, `drop`, `step`, `run`, `about`, `item` "
            + "the interface says: ---- transactions.", "in the class's own text",
            found.indexOf("transactions begin read write commit drop step run about item"), 1);
        s.due("Ahead of the calls `check`, `unlike`, `count` the interface says: ---- all of it.", "in the class's own text",
            found.indexOf("all of it check unlike count"), 2);
    }

    /** Each heading of the source with the public calls behind it. */
    private static List<String> headings() {
        Matcher matcher = Pattern.compile("// ---- (.*)|public int (\\w+)\\(").matcher(source());
        List<String> found = new ArrayList<>();
        while (matcher.find()) {
            if (matcher.group(1) != null) {
                found.add(matcher.group(1));
            } else if (!found.isEmpty()) {
                found.set(found.size() - 1, found.get(found.size() - 1) + " " + matcher.group(2));
            }
        }
        return found;
    }

    private static String source() {
        try {
            return Files.readString(Path.of("src/main/java/LockLookMemory.java"));
        } catch (IOException unreadable) {
            throw new UncheckedIOException(unreadable);
        }
    }
}
