import java.lang.reflect.InvocationTargetException;
import java.lang.reflect.Method;
import java.util.ArrayList;
import java.util.List;
import java.util.Set;
import java.util.regex.Matcher;
import java.util.regex.Pattern;

/**
 * Plays runs that are written as text, "begin(4) = 0; step(0) = STATE", each on a new object. The
 * same calls go to a second object, which is asked for everything around each call that is refused
 * or only asks: the first one stays below the document's 512 calls, whatever is asked here.
 */
final class Play {
    private static final Set<String> QUESTIONS =
        Set.of("machine", "copyAt", "object", "about", "item", "check", "unlike", "count");
    private static final Pattern CALL = Pattern.compile("(\\w+)\\(([^)]*)\\)\\s*=\\s*(-?\\w+)");

    private static final int CALLS_OF_ONE_OBJECT = 512;

    private int calls = 0;
    private int wrong = 0;

    void run(String title, String... lines) {
        LockLookMemory memory = new LockLookMemory();
        LockLookMemory watched = new LockLookMemory();
        int callsAtFirst = calls;
        for (String line : lines) {
            for (String call : line.split(";")) {
                if (!call.isBlank()) {
                    play(title, memory, watched, call.trim());
                }
            }
        }
        if (calls - callsAtFirst > CALLS_OF_ONE_OBJECT) {
            throw new IllegalStateException(title + ": longer than the document allows");
        }
    }

    void due(String title, String call, long got, long want) {
        calls++;
        if (got != want) {
            wrong++;
            System.out.println(title + ": " + call + " answered " + got + ", due is " + want);
        }
    }

    void end() {
        System.out.println(calls + " calls, " + wrong + " wrong");
        if (wrong != 0 || calls == 0) {
            System.exit(1);
        }
    }

    private void play(String title, LockLookMemory memory, LockLookMemory watched, String text) {
        Matcher call = CALL.matcher(text);
        if (!call.matches()) {
            throw new IllegalStateException(title + ": not a call: " + text);
        }
        String name = call.group(1);
        List<Integer> arguments = numbers(call.group(2));
        int want = number(call.group(3));
        due(title, text, answer(memory, name, arguments), want);
        List<Integer> before = isToChangeNothing(name, want) ? Snapshot.of(watched) : null;
        answer(watched, name, arguments);
        if (before != null && !before.equals(Snapshot.of(watched))) {
            wrong++;
            System.out.println(title + ": " + text + " has changed something");
        }
    }

    static boolean isToChangeNothing(String name, int answer) {
        return QUESTIONS.contains(name) || (answer <= LockLookMemory.UNKNOWN && answer >= LockLookMemory.WAITS);
    }

    static int answer(Object memory, String name, List<Integer> arguments) {
        Class<?>[] types = new Class<?>[arguments.size()];
        java.util.Arrays.fill(types, int.class);
        try {
            Method method = memory.getClass().getDeclaredMethod(name, types);
            return (Integer) method.invoke(memory, arguments.toArray());
        } catch (InvocationTargetException thrown) {
            throw new IllegalStateException(name + arguments + " threw", thrown.getCause());
        } catch (ReflectiveOperationException missing) {
            throw new IllegalStateException(name + arguments + " is no call", missing);
        }
    }

    private static List<Integer> numbers(String text) {
        List<Integer> found = new ArrayList<>();
        for (String part : text.split(",")) {
            if (!part.isBlank()) {
                found.add(number(part.trim()));
            }
        }
        return found;
    }

    private static int number(String text) {
        switch (text) {
            case "UNKNOWN": return -1;
            case "OUTSIDE": return -2;
            case "STATE": return -3;
            case "FULL": return -4;
            case "LOST": return -5;
            case "WAITS": return -6;
            case "NONE": return -9;
            case "MIN": return Integer.MIN_VALUE;
            case "MAX": return Integer.MAX_VALUE;
            default: return Integer.parseInt(text);
        }
    }
}
