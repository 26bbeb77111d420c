import java.io.IOException;
import java.lang.reflect.Field;
import java.lang.reflect.Method;
import java.lang.reflect.Modifier;
import java.nio.file.Files;
import java.nio.file.Path;
import java.util.ArrayList;
import java.util.List;
import java.util.Set;
import java.util.TreeSet;
import java.util.regex.Matcher;
import java.util.regex.Pattern;

/** The face of the document, and those rules of LANGUAGE.md that can be seen from outside. */
public final class LanguageTest {
    private static final Set<String> FACE = Set.of(
        "region/3", "fail/1", "configure/0", "copy/2", "machine/2", "copyAt/2", "object/4", "begin/1", "read/3",
        "write/4", "commit/1", "drop/1", "step/1", "run/2", "about/2", "item/3", "check/0", "unlike/0", "count/1");
    private static final Set<String> CONSTANTS =
        Set.of("UNKNOWN", "OUTSIDE", "STATE", "FULL", "LOST", "WAITS", "NONE");
    private static final List<String> RULED_OUT = List.of(
        "\\b(throw|throws|try|catch|synchronized|assert|protected|package|native|volatile)\\b", "->", "::",
        "\\b(hashCode|toString|\\w+Exact|System|Object|Random|Thread)\\b", "\\.equals\\(", "for \\([^;)]*:",
        "import (?!java\\.util\\.ArrayList;)");
    private static int wrong = 0;

    public static void main(String[] args) throws IOException {
        face();
        fieldsAndClasses();
        source(Files.readString(Path.of("src/main/java/LockLookMemory.java")));
        System.out.println(wrong + " wrong");
        if (wrong != 0) {
            System.exit(1);
        }
    }

    private static void expect(boolean holds, String what) {
        if (!holds) {
            wrong++;
            System.out.println("does not hold: " + what);
        }
    }

    private static void face() {
        Set<String> found = new TreeSet<>();
        Set<String> names = new TreeSet<>();
        for (Method method : LockLookMemory.class.getDeclaredMethods()) {
            if (Modifier.isPublic(method.getModifiers())) {
                found.add(method.getName() + "/" + method.getParameterCount());
                names.add(method.getName());
                expect(method.getReturnType() == int.class, method + " answers an int");
            }
        }
        expect(found.equals(FACE), "the public methods are those of the document");
        for (Class<?> type : withNested()) {
            for (Method method : type.getDeclaredMethods()) {
                boolean isOwn = type == LockLookMemory.class;
                expect(isOwn && Modifier.isPublic(method.getModifiers()) || !names.contains(method.getName()),
                    method + " bears no name of a public one");
                expect(!isOwn || (method.getModifiers() & (Modifier.PUBLIC | Modifier.PRIVATE)) != 0,
                    method + " is public or private");
                expect(method.getParameterCount() <= 7, method + " takes at most seven parameters");
            }
        }
        expect(LockLookMemory.class.getDeclaredConstructors().length == 1, "there is one constructor");
        expect(LockLookMemory.class.getConstructors().length == 1, "the constructor is public");
        int modifiers = LockLookMemory.class.getModifiers();
        expect(Modifier.isFinal(modifiers) && Modifier.isPublic(modifiers), "the class is public and final");
    }

    private static void fieldsAndClasses() {
        Set<String> constants = new TreeSet<>();
        for (Class<?> type : withNested()) {
            int fields = 0;
            for (Field field : type.getDeclaredFields()) {
                int modifiers = field.getModifiers();
                if (Modifier.isStatic(modifiers)) {
                    expect(Modifier.isFinal(modifiers) && field.getType() == int.class, field + " is a constant");
                } else {
                    fields++;
                }
                if (Modifier.isPublic(modifiers)) {
                    constants.add(field.getName());
                } else {
                    expect(type != LockLookMemory.class || Modifier.isPrivate(modifiers), field + " is private");
                }
            }
            expect(fields <= 20, type + " has at most twenty fields");
            expect(type == LockLookMemory.class || Modifier.isStatic(type.getModifiers()), type + " is static");
        }
        expect(constants.equals(CONSTANTS), "the public constants are those of the document");
        expect(withNested().size() <= 12, "there are at most twelve classes");
    }

    private static void source(String text) {
        String code = text.replaceAll("(?s)/\\*.*?\\*/", "").replaceAll("//[^\n]*", "");
        for (String ruledOut : RULED_OUT) {
            Matcher matcher = Pattern.compile(ruledOut).matcher(code);
            expect(!matcher.find(), "the source has no " + ruledOut);
        }
        methodsAreShort(code.split("\n"));
    }

    private static void methodsAreShort(String[] lines) {
        Pattern header = Pattern.compile("( +)(?=\\S)(?!if |for |while |switch |\\}).*\\) \\{");
        int methods = 0;
        for (int i = 0; i < lines.length; i++) {
            Matcher matcher = header.matcher(lines[i]);
            if (matcher.matches()) {
                methods++;
                int end = i;
                while (end < lines.length && !lines[end].equals(matcher.group(1) + "}")) {
                    end++;
                }
                expect(end - i < 60, lines[i].trim() + " has less than sixty lines");
            }
        }
        expect(methods > FACE.size(), "methods were found");
    }

    private static List<Class<?>> withNested() {
        List<Class<?>> found = new ArrayList<>(List.of(LockLookMemory.class));
        found.addAll(List.of(LockLookMemory.class.getDeclaredClasses()));
        return found;
    }
}
