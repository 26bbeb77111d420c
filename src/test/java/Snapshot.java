import java.util.ArrayList;
import java.util.List;

/** Every answer that can be asked of a memory without changing anything. */
final class Snapshot {
    private Snapshot() { }

    static List<Integer> of(LockLookMemory memory) {
        List<Integer> found = new ArrayList<>(List.of(memory.check(), memory.unlike()));
        for (int what = 0; what < 10; what++) {
            found.add(memory.count(what));
        }
        for (int m = 0; m < 6; m++) {
            for (int what = 0; what < 4; what++) {
                found.add(memory.machine(m, what));
            }
        }
        for (int r = 0; r < memory.count(0); r++) {
            addRegion(memory, r, found);
        }
        for (int t = 0; t < memory.count(1); t++) {
            addTransaction(memory, t, found);
        }
        return found;
    }

    private static void addRegion(LockLookMemory memory, int r, List<Integer> found) {
        for (int i = 0; i < 4; i++) {
            found.add(memory.copyAt(r, i));
            for (int object = 0; object < 8; object++) {
                for (int what = 0; what < 4; what++) {
                    found.add(memory.object(r, i, object, what));
                }
            }
        }
    }

    private static void addTransaction(LockLookMemory memory, int t, List<Integer> found) {
        for (int what = 0; what < 6; what++) {
            found.add(memory.about(t, what));
        }
        for (int i = 0; i < memory.about(t, 2); i++) {
            for (int what = 0; what < 5; what++) {
                found.add(memory.item(t, i, what));
            }
        }
    }
}
