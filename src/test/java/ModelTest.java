import java.util.ArrayList;
import java.util.List;

/** Random runs of 512 calls, asked of the class and of the model. */
public final class ModelTest {
    private static final int RUNS = 3000;
    private static final int CALLS = 512;

    public static void main(String[] args) {
        for (int seed = 0; seed < RUNS; seed++) {
            compare(seed);
        }
        System.out.println(RUNS + " runs of " + CALLS + " calls are like the model");
    }

    private static void compare(int seed) {
        RandomCalls calls = new RandomCalls(seed);
        LockLookMemory memory = new LockLookMemory();
        Model model = new Model();
        List<String> told = new ArrayList<>();
        for (int turn = 0; turn < CALLS; turn++) {
            RandomCalls.Call call = calls.next(turn);
            int want = Play.answer(model, call.name(), call.arguments());
            int got = Play.answer(memory, call.name(), call.arguments());
            told.add(call + " = " + got);
            if (got != want) {
                told.forEach(System.out::println);
                System.out.println("seed " + seed + ": the model answers " + want);
                System.exit(1);
            }
        }
    }
}
