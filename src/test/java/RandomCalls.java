import java.util.List;
import java.util.Random;

/** Calls with a fixed seed, most of them sensible, some with numbers of every kind. */
final class RandomCalls {
    record Call(String name, List<Integer> arguments) {
        @Override
        public String toString() {
            return name + arguments;
        }
    }

    private static final int[] ODD = {-1, -9, -10, 6, 8, 60, 101, 512, Integer.MAX_VALUE, Integer.MIN_VALUE};

    private final Random random;
    private final int failing;
    private int begun = 0;

    RandomCalls(long seed) {
        random = new Random(seed);
        failing = random.nextInt(3);
    }

    Call next(int turn) {
        Call call = turn < 4 ? region() : random.nextInt(100) < 30 ? question() : change();
        if (call.name().equals("begin")) {
            begun++;
        }
        return call;
    }

    private Call change() {
        int kind = random.nextInt(200);
        if (kind < 2) {
            return region();
        }
        if (kind < 2 + 2 * failing) {
            return call("fail", number(6));
        }
        if (kind < 12) {
            return call("configure");
        }
        if (kind < 20) {
            return call("copy", number(6), number(6));
        }
        if (kind < 42) {
            return call("begin", number(6));
        }
        if (kind < 65) {
            return call("read", transaction(), number(4), number(random.nextBoolean() ? 3 : 8));
        }
        if (kind < 100) {
            return call("write", transaction(), number(4), number(random.nextBoolean() ? 3 : 8), value());
        }
        if (kind < 125) {
            return call("commit", transaction());
        }
        if (kind < 128) {
            return call("drop", transaction());
        }
        if (kind < 180) {
            return call("step", transaction());
        }
        return call("run", transaction(), number(kind < 195 ? 7 : 102));
    }

    private Call question() {
        switch (random.nextInt(10)) {
            case 0: return call("machine", number(6), number(4));
            case 1: return call("copyAt", number(6), number(4));
            case 2: return call("about", transaction(), number(6));
            case 3: return call("item", transaction(), number(8), number(5));
            case 4: return call("check");
            case 5: return call("unlike");
            case 6: return call("count", number(10));
            default: return call("object", number(4), number(3), number(3), number(4));
        }
    }

    private Call region() {
        int a = number(6);
        int b = random.nextInt(4) == 0 ? -9 : number(6);
        int c = b == -9 || random.nextBoolean() ? -9 : number(6);
        return call("region", a, b, c);
    }

    private int value() {
        return random.nextInt(12) == 0 ? -1000005 + random.nextInt(10) : random.nextInt(60) - 12;
    }

    /** Mostly one of the last ones begun, so that several are under way at once. */
    private int transaction() {
        return Math.max(0, random.nextInt(10) == 0 ? number(60) : begun - 1 - random.nextInt(6));
    }

    private int number(int below) {
        return random.nextInt(60) == 0 ? ODD[random.nextInt(ODD.length)] : random.nextInt(below);
    }

    private static Call call(String name, Integer... arguments) {
        return new Call(name, List.of(arguments));
    }
}
