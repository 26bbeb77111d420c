import java.util.List;

/** What is refused changes nothing, questions change nothing, and no call throws. */
public final class RefusedTest {
    private static final int RUNS = 60;
    private static final int CALLS = 512;

    public static void main(String[] args) {
        int refused = 0;
        for (int seed = 0; seed < RUNS; seed++) {
            refused += watch(100000 + seed);
        }
        everyArgument();
        System.out.println(refused + " refused calls and questions changed nothing");
        if (refused == 0) {
            System.exit(1);
        }
    }

    private static int watch(int seed) {
        RandomCalls calls = new RandomCalls(seed);
        LockLookMemory memory = new LockLookMemory();
        int refused = 0;
        List<Integer> before = Snapshot.of(memory);
        for (int turn = 0; turn < CALLS; turn++) {
            RandomCalls.Call call = calls.next(turn);
            int answer = Play.answer(memory, call.name(), call.arguments());
            List<Integer> after = Snapshot.of(memory);
            if (Play.isToChangeNothing(call.name(), answer)) {
                refused++;
                if (!after.equals(before)) {
                    System.out.println("seed " + seed + ": " + call + " answered " + answer + " and changed something");
                    System.exit(1);
                }
            }
            before = after;
        }
        return refused;
    }

    private static void everyArgument() {
        int[] odd = {Integer.MIN_VALUE, -1000001, -10, -9, -1, 0, 1, 5, 6, 7, 8, 59, 60, 100, 101, 1000001, Integer.MAX_VALUE};
        LockLookMemory memory = new LockLookMemory();
        for (int a : odd) {
            for (int b : odd) {
                for (int c : odd) {
                    memory.region(a, b, c);
                    memory.read(a, b, c);
                    memory.item(a, b, c);
                    for (int d : odd) {
                        memory.object(a, b, c, d);
                        memory.write(a, b, c, d);
                    }
                }
                memory.copy(a, b);
                memory.machine(a, b);
                memory.copyAt(a, b);
                memory.about(a, b);
                memory.run(a, b);
            }
            memory.begin(a);
            memory.count(a);
            memory.commit(a);
            memory.step(a);
            memory.drop(a);
            memory.fail(a);
            memory.configure();
        }
    }
}
