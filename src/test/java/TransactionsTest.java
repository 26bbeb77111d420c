/** Promises 9 to 17: transactions from begin() to their ends. */
public final class TransactionsTest {
    private static final Play play = new Play();

    public static void main(String[] args) {
        begin();
        read();
        write();
        commit();
        drop();
        locking();
        looking();
        backingAndBehind();
        waiting();
        lost();
        run();
        about();
        item();
        play.end();
    }

    private static void begin() {
        play.run("9 begin",
            "begin(0) = 0; begin(5) = 1; begin(0) = 2; begin(6) = UNKNOWN; begin(-1) = UNKNOWN; begin(NONE) = UNKNOWN",
            "fail(0) = 5; begin(0) = STATE; configure() = 0; begin(0) = STATE; begin(1) = 3; count(1) = 4");
        LockLookMemory memory = new LockLookMemory();
        for (int n = 0; n < 60; n++) {
            play.due("9 begin: 60", "begin(2)", memory.begin(2), n);
        }
        play.due("9 begin: 60", "begin(2)", memory.begin(2), LockLookMemory.FULL);
        play.due("9 begin: 60", "begin(6)", memory.begin(6), LockLookMemory.UNKNOWN);
        play.due("9 begin: 60", "fail(2)", memory.fail(2), 5);
        play.due("9 begin: 60", "begin(2)", memory.begin(2), LockLookMemory.STATE);
        play.due("9 begin: 60", "about(59, 1)", memory.about(59, 1), 2);
        play.due("9 begin: 60", "about(60, 1)", memory.about(60, 1), LockLookMemory.UNKNOWN);
    }

    private static void read() {
        String region = "region(0, 1, NONE) = 0";
        play.run("10 read: what was written, what was read before, what the primary has", region,
            "begin(4) = 0; begin(4) = 1; begin(4) = 2; read(0, 0, 0) = 0; write(1, 0, 0, 9) = 1; read(1, 0, 0) = 9",
            "commit(1) = 1; run(1, 100) = 4; read(0, 0, 0) = 0; read(2, 0, 0) = 9; item(2, 0, 3) = 1; about(2, 2) = 1",
            "read(2, 0, 0) = 9; about(2, 2) = 1; write(2, 0, 0, -1000000) = 1; read(2, 0, 0) = -1000000; about(2, 2) = 1");
        play.run("10 read: UNKNOWN and STATE",
            "read(0, 0, 0) = UNKNOWN", region, "read(0, 0, 0) = UNKNOWN; begin(4) = 0; read(1, 0, 0) = UNKNOWN",
            "read(-1, 0, 0) = UNKNOWN; read(0, 1, 0) = UNKNOWN; read(0, -1, 0) = UNKNOWN; read(0, 0, 8) = UNKNOWN",
            "read(0, 0, -1) = UNKNOWN; about(0, 2) = 0; drop(0) = 8; read(0, 0, 0) = STATE; read(0, 0, 8) = UNKNOWN");
        play.run("10 read: WAITS for a lock, unless it was read before", region,
            "begin(4) = 0; begin(5) = 1; begin(5) = 2; read(1, 0, 0) = 0; write(0, 0, 0, 7) = 1; commit(0) = 1; step(0) = 3",
            "read(1, 0, 0) = 0; write(1, 0, 0, 8) = 1; read(2, 0, 0) = WAITS; write(2, 0, 0, 8) = WAITS; about(2, 2) = 0",
            "read(2, 0, 1) = 0; run(0, 2) = 2; read(2, 0, 0) = 7; about(2, 2) = 2");
        play.run("10 read: WAITS for machines, read before or not",
            "region(0, 1, NONE) = 0; region(2, 3, NONE) = 1; begin(4) = 0; begin(5) = 1; read(0, 0, 0) = 0; read(1, 1, 0) = 0",
            "fail(0) = 5; read(0, 0, 0) = WAITS; read(0, 0, 1) = WAITS; read(0, 1, 0) = 0; fail(5) = 4",
            "read(1, 1, 0) = WAITS; read(1, 1, 1) = WAITS; configure() = 0; read(0, 0, 0) = 0; read(0, 0, 1) = 0");
        play.run("10 read: LOST, ahead of WAITS and behind STATE",
            "region(0, NONE, NONE) = 0; region(1, NONE, NONE) = 1; begin(4) = 0; begin(5) = 1; read(0, 0, 0) = 0; fail(0) = 5",
            "read(0, 0, 0) = WAITS; configure() = 0; read(0, 0, 0) = LOST; read(0, 0, 1) = LOST; fail(4) = 4",
            "read(0, 0, 0) = LOST; read(0, 1, 0) = WAITS; drop(1) = 8; read(1, 0, 0) = STATE; read(1, 0, 9) = UNKNOWN");
        play.run("10 read: LOST while machine 0 is up",
            "region(1, 2, NONE) = 0; begin(4) = 0; fail(1) = 5; fail(2) = 4; configure() = 0; read(0, 0, 0) = LOST",
            "write(0, 0, 0, 1) = LOST; copy(0, 3) = LOST; count(9) = 1; about(0, 2) = 0");
        play.run("10 read: FULL, behind WAITS", region,
            "region(2, NONE, NONE) = 1; begin(4) = 0; begin(5) = 1",
            "read(0, 0, 0) = 0; read(0, 0, 1) = 0; read(0, 0, 2) = 0; read(0, 0, 3) = 0; write(0, 0, 4, 4) = 1",
            "read(0, 0, 5) = 0; read(0, 0, 6) = 0; write(0, 0, 7, 7) = 2; read(0, 1, 0) = FULL; write(0, 1, 0, 0) = FULL",
            "read(0, 0, 7) = 7; read(0, 0, 0) = 0; write(0, 0, 0, 1) = 3; about(0, 2) = 8; write(1, 1, 0, 5) = 1",
            "commit(1) = 1; step(1) = 4; read(0, 1, 0) = WAITS; read(0, 1, 1) = FULL; write(0, 1, 0, -9) = OUTSIDE");
    }

    private static void write() {
        String region = "region(0, 1, NONE) = 0; begin(4) = 0";
        play.run("11 write: values", region,
            "write(0, 0, 0, 0) = 1; write(0, 0, 1, 1000000) = 2; write(0, 0, 2, -10) = 3; write(0, 0, 3, -1000000) = 4",
            "write(0, 0, 4, -1) = OUTSIDE; write(0, 0, 4, -9) = OUTSIDE; write(0, 0, 4, 1000001) = OUTSIDE",
            "write(0, 0, 4, -1000001) = OUTSIDE; write(0, 0, 4, 2147483647) = OUTSIDE; write(0, 0, 4, -2147483648) = OUTSIDE",
            "about(0, 2) = 4; write(0, 0, 0, 12) = 4; read(0, 0, 0) = 12; item(0, 0, 4) = 12; item(0, 0, 2) = 0");
        play.run("11 write: of several refusals the first", region,
            "write(1, 0, 0, -1) = UNKNOWN; write(-1, 0, 0, 1) = UNKNOWN; write(0, 1, 0, -1) = UNKNOWN; write(0, 0, 8, -1) = UNKNOWN",
            "write(0, 0, -1, 1) = UNKNOWN; write(0, -1, 0, 1) = UNKNOWN; write(0, 0, 0, 3) = 1; fail(0) = 5",
            "write(0, 0, 0, 4) = WAITS; write(0, 0, 1, 4) = WAITS; write(0, 0, 0, -1) = OUTSIDE; read(0, 0, 0) = WAITS",
            "fail(1) = 4; configure() = 0; write(0, 0, 0, 4) = LOST; write(0, 0, 0, -1) = OUTSIDE; fail(4) = 3",
            "write(0, 0, 0, 4) = LOST; configure() = 0; write(0, 0, 0, 4) = STATE; write(0, 0, 0, -1) = OUTSIDE");
        play.run("11 write: what was read stays in its place, with what was kept then", region,
            "begin(5) = 1; read(0, 0, 5) = 0; read(0, 0, 2) = 0; write(1, 0, 5, 50) = 1; commit(1) = 1; run(1, 100) = 4",
            "write(0, 0, 2, 20) = 1; write(0, 0, 5, 51) = 2; item(0, 0, 1) = 5; item(0, 0, 2) = 0; item(0, 0, 3) = 0",
            "item(0, 0, 4) = 51; item(0, 1, 1) = 2; commit(0) = 1; step(0) = 8; object(0, 0, 5, 0) = 50");
    }

    private static void commit() {
        play.run("12 commit: the phase then, and the place of one without writes",
            "region(0, 1, NONE) = 0; begin(3) = 0; begin(3) = 1; begin(3) = 2; write(0, 0, 0, 1) = 1; read(1, 0, 1) = 0",
            "commit(0) = 1; about(0, 5) = 0; commit(1) = 2; about(1, 5) = 1; commit(2) = 7; about(2, 5) = 2; step(0) = 3",
            "about(0, 5) = 3; step(1) = 7; about(1, 5) = 1; about(1, 4) = 0; about(2, 4) = 0");
        play.run("12 commit: refusals",
            "commit(0) = UNKNOWN; begin(3) = 0; begin(4) = 1; commit(-1) = UNKNOWN; commit(2) = UNKNOWN; commit(0) = 7",
            "commit(0) = STATE; fail(4) = 5; commit(1) = WAITS; about(1, 0) = 0; about(1, 5) = 0; fail(3) = 4",
            "commit(0) = STATE; configure() = 0; commit(1) = STATE");
        play.run("12 commit: a gone primary does not hold it up",
            "region(0, NONE, NONE) = 0; begin(3) = 0; begin(3) = 1; write(0, 0, 0, 1) = 1; read(1, 0, 0) = 0; fail(0) = 5",
            "commit(0) = 1; step(0) = WAITS; configure() = 1; about(0, 0) = 8; commit(1) = 2; step(1) = LOST");
    }

    private static void drop() {
        play.run("13 drop",
            "region(0, 1, NONE) = 0; drop(0) = UNKNOWN; begin(3) = 0; begin(3) = 1; begin(4) = 2; begin(3) = 3",
            "write(0, 0, 0, 1) = 1; drop(0) = 8; about(0, 0) = 8; count(6) = 1; object(0, 0, 0, 0) = 0; drop(0) = STATE",
            "about(0, 5) = 0; commit(1) = 7; drop(1) = STATE; fail(4) = 5; drop(2) = WAITS; about(2, 0) = 0",
            "write(3, 0, 0, 1) = 1; commit(3) = 1; drop(3) = STATE; drop(-1) = UNKNOWN; drop(4) = UNKNOWN; count(6) = 1");
    }

    private static void locking() {
        play.run("14 step: refusals of one that is not under way",
            "step(0) = UNKNOWN; begin(3) = 0; begin(3) = 1; step(0) = STATE; commit(0) = 7; step(0) = STATE; drop(1) = 8",
            "step(1) = STATE; step(-1) = UNKNOWN; step(2) = UNKNOWN; fail(3) = 5; step(0) = STATE");
        play.run("14 step: LOCKING, by the order of items",
            "region(0, 1, NONE) = 0; region(2, NONE, NONE) = 1; begin(3) = 0; read(0, 1, 4) = 0; write(0, 0, 7, 1) = 1",
            "write(0, 0, 3, 2) = 2; write(0, 1, 4, 3) = 3; commit(0) = 1; step(0) = 1; object(1, 0, 4, 2) = 0",
            "count(7) = 1; about(0, 5) = 0; step(0) = 1; object(0, 0, 7, 2) = 0; count(7) = 2; about(0, 5) = 0",
            "step(0) = 3; object(0, 0, 3, 2) = 0; about(0, 5) = 1; about(0, 4) = 0; count(7) = 3");
        play.run("14 step: LOCKING fails at a lock, then each lock is let go",
            "region(0, NONE, NONE) = 0; begin(3) = 0; begin(4) = 1; write(0, 0, 0, 1) = 1; write(1, 0, 1, 1) = 1",
            "write(1, 0, 2, 1) = 2; write(1, 0, 0, 1) = 3; commit(0) = 1; commit(1) = 1; run(1, 2) = 2; step(0) = 4",
            "step(1) = 6; count(7) = 3; about(1, 5) = 0; step(1) = 6; object(0, 0, 1, 2) = NONE; object(0, 0, 2, 2) = 1",
            "step(1) = 8; object(0, 0, 2, 2) = NONE; object(0, 0, 0, 2) = 0; step(0) = 7; object(0, 0, 0, 1) = 1");
        play.run("14 step: LOCKING fails at another version, at once where nothing is locked",
            "region(0, NONE, NONE) = 0; begin(3) = 0; begin(4) = 1; write(0, 0, 0, 0) = 1; write(1, 0, 0, 0) = 1",
            "commit(0) = 1; run(0, 9) = 2; about(0, 0) = 7; commit(1) = 1; step(1) = 8; about(1, 5) = 0; object(0, 0, 0, 2) = NONE");
    }

    private static void looking() {
        play.run("14 step: LOOKING at what is read and not written",
            "region(0, NONE, NONE) = 0; begin(3) = 0; read(0, 0, 0) = 0; write(0, 0, 1, 1) = 1; read(0, 0, 2) = 0",
            "commit(0) = 1; step(0) = 2; step(0) = 2; step(0) = 4; step(0) = 7; object(0, 0, 1, 0) = 1");
        play.run("14 step: LOOKING at a lock",
            "region(0, NONE, NONE) = 0; begin(3) = 0; begin(4) = 1; read(0, 0, 0) = 0; write(1, 0, 0, 1) = 1; commit(0) = 2",
            "commit(1) = 1; step(1) = 4; step(0) = 8; about(0, 5) = 1; about(1, 5) = 2; step(1) = 7; check() = NONE");
        play.run("14 step: LOOKING at another version, while the value is the same",
            "region(0, NONE, NONE) = 0; begin(3) = 0; begin(4) = 1; read(0, 0, 0) = 0; write(0, 0, 1, 5) = 1",
            "write(1, 0, 0, 0) = 1; commit(1) = 1; run(1, 5) = 2; commit(0) = 1; step(0) = 2; step(0) = 6",
            "object(0, 0, 1, 2) = 0; step(0) = 8; object(0, 0, 1, 2) = NONE; object(0, 0, 1, 0) = 0; about(0, 5) = 2");
    }

    private static void backingAndBehind() {
        play.run("14 step: BACKING by objects, then copies; WRITING; CLEANING as records were made",
            "region(2, 1, 0) = 0; region(3, NONE, NONE) = 1; region(0, 5, NONE) = 2; begin(4) = 0; write(0, 2, 0, 10) = 1",
            "write(0, 1, 0, 20) = 2; write(0, 0, 0, 30) = 3; commit(0) = 1; run(0, 3) = 3; about(0, 0) = 3",
            "step(0) = 3; machine(5, 3) = 1; step(0) = 3; machine(1, 3) = 1; machine(0, 3) = 0; step(0) = 4",
            "machine(0, 3) = 1; count(8) = 3; about(0, 4) = 0; step(0) = 4; about(0, 4) = 1; object(2, 0, 0, 0) = 10",
            "object(1, 0, 0, 0) = 0; count(7) = 2; step(0) = 4; object(1, 0, 0, 0) = 20; step(0) = 5; object(0, 0, 0, 0) = 30",
            "count(7) = 0; unlike() = 0; step(0) = 5; machine(5, 3) = 0; object(2, 1, 0, 0) = 10; unlike() = 0; step(0) = 5",
            "machine(1, 3) = 0; object(0, 1, 0, 0) = 30; object(0, 2, 0, 0) = 0; step(0) = 7; object(0, 2, 0, 0) = 30",
            "count(8) = 0; unlike() = NONE; about(0, 4) = 1");
        play.run("14 step: phases with nothing to do are passed over",
            "region(0, NONE, NONE) = 0; begin(4) = 0; write(0, 0, 0, 10) = 1; commit(0) = 1; step(0) = 4; step(0) = 7");
        play.run("14 step: only members have backups",
            "region(0, 1, 2) = 0; begin(4) = 0; write(0, 0, 0, 10) = 1; fail(1) = 5; configure() = 0; commit(0) = 1",
            "step(0) = 3; step(0) = 4; object(0, 1, 0, 3) = 1; step(0) = 5; step(0) = 7; machine(1, 3) = 0");
    }

    private static void waiting() {
        String begun = "region(0, 1, NONE) = 0; region(2, NONE, NONE) = 1; begin(3) = 0; write(0, 0, 0, 1) = 1; write(0, 1, 0, 2) = 2";
        play.run("14 step: WAITS for the coordinator", begun,
            "commit(0) = 1; fail(3) = 5; step(0) = WAITS; count(7) = 0; run(0, 100) = 0; about(0, 0) = 1");
        play.run("14 step: WAITS for the primary alone in LOCKING", begun,
            "commit(0) = 1; fail(1) = 5; step(0) = 1; fail(2) = 4; step(0) = WAITS; count(7) = 1");
        play.run("14 step: WAITS for the backup in BACKING", begun,
            "commit(0) = 1; run(0, 2) = 2; about(0, 0) = 3; fail(0) = 5; fail(2) = 4; step(0) = 4; step(0) = WAITS");
        play.run("14 step: a gone backup holds up BACKING", begun,
            "commit(0) = 1; run(0, 2) = 2; fail(1) = 5; step(0) = WAITS; count(8) = 0");
        play.run("14 step: WAITS for the primary in WRITING", begun,
            "commit(0) = 1; run(0, 3) = 3; about(0, 0) = 4; fail(1) = 5; step(0) = 4; fail(2) = 4; step(0) = WAITS; about(0, 4) = 1");
        play.run("14 step: WAITS for the backup in CLEANING", begun,
            "commit(0) = 1; run(0, 5) = 5; about(0, 0) = 5; fail(0) = 5; fail(2) = 4; step(0) = 7; object(0, 1, 0, 0) = 1");
        play.run("14 step: a gone backup holds up CLEANING", begun,
            "commit(0) = 1; run(0, 5) = 5; fail(1) = 5; step(0) = WAITS; count(8) = 1");
        play.run("14 step: WAITS for the primary in LOOKING and UNLOCKING",
            "region(0, NONE, NONE) = 0; region(1, NONE, NONE) = 1; begin(3) = 0; begin(3) = 1; write(0, 0, 0, 1) = 1",
            "read(0, 1, 0) = 0; write(1, 1, 0, 1) = 1; commit(0) = 1; step(0) = 2; commit(1) = 1; step(1) = 4; fail(1) = 5",
            "step(0) = WAITS; about(0, 0) = 2");
        play.run("14 step: WAITS for the primary in UNLOCKING",
            "region(0, NONE, NONE) = 0; region(1, NONE, NONE) = 1; begin(3) = 0; begin(3) = 1; write(0, 0, 0, 1) = 1",
            "read(0, 1, 0) = 0; write(1, 1, 0, 1) = 1; commit(0) = 1; step(0) = 2; commit(1) = 1; step(1) = 4",
            "step(0) = 6; fail(1) = 5; fail(0) = 4; step(0) = WAITS; object(0, 0, 0, 2) = 0");
    }

    private static void lost() {
        play.run("14 step: LOST ahead of WAITS, for writes and for reads",
            "region(0, NONE, NONE) = 0; region(1, NONE, NONE) = 1; begin(3) = 0; begin(4) = 1; write(0, 1, 0, 1) = 1",
            "write(0, 0, 0, 1) = 2; write(1, 1, 1, 1) = 1; read(1, 0, 1) = 0; commit(1) = 1; fail(0) = 5; configure() = 0",
            "commit(0) = 1; step(0) = 1; step(0) = LOST; step(1) = 2; step(1) = LOST; run(1, 9) = 0; fail(3) = 4",
            "step(0) = LOST; count(7) = 2; fail(4) = 3; step(1) = LOST; copy(1, 5) = STATE; configure() = 2",
            "about(0, 0) = 8; about(1, 0) = 8; count(7) = 0; copy(1, 5) = 2");
    }

    private static void run() {
        play.run("15 run",
            "run(0, 1) = UNKNOWN; region(0, 1, 2) = 0; begin(3) = 0; run(0, 1) = STATE; run(0, 0) = OUTSIDE; run(0, 101) = OUTSIDE",
            "run(-1, 0) = UNKNOWN; run(1, 0) = UNKNOWN; run(0, -2147483648) = OUTSIDE; run(0, 2147483647) = OUTSIDE",
            "write(0, 0, 0, 1) = 1; commit(0) = 1; run(0, 1) = 1; about(0, 0) = 3; run(0, 0) = OUTSIDE; run(0, 2) = 2",
            "about(0, 0) = 4; run(0, 100) = 3; about(0, 0) = 7; run(0, 1) = STATE; run(0, 101) = OUTSIDE");
        play.run("15 run: as long as none is refused",
            "region(0, 1, 2) = 0; begin(3) = 0; write(0, 0, 0, 1) = 1; commit(0) = 1; fail(2) = 5; run(0, 100) = 2",
            "about(0, 0) = 3; run(0, 100) = 0; step(0) = WAITS; begin(3) = 1; read(1, 0, 1) = 0; commit(1) = 2; run(1, 100) = 1");
        play.run("15 run: the acts of one that gives up count",
            "region(0, NONE, NONE) = 0; begin(3) = 0; begin(3) = 1; write(0, 0, 1, 1) = 1; write(0, 0, 0, 1) = 2",
            "write(1, 0, 0, 1) = 1; commit(1) = 1; run(1, 100) = 2; commit(0) = 1; run(0, 100) = 3; about(0, 0) = 8");
    }

    private static void about() {
        play.run("16 about",
            "region(0, 1, NONE) = 0; about(0, 0) = UNKNOWN; begin(5) = 0; about(0, 0) = 0; about(0, 1) = 5; about(0, 2) = 0",
            "about(0, 3) = 0; about(0, 4) = 0; about(0, 5) = 0; about(0, 6) = OUTSIDE; about(0, -1) = OUTSIDE",
            "about(1, 6) = UNKNOWN; about(-1, 0) = UNKNOWN; read(0, 0, 0) = 0; write(0, 0, 1, 4) = 1; write(0, 0, 1, 5) = 1",
            "about(0, 2) = 2; about(0, 3) = 1; commit(0) = 1; step(0) = 2; about(0, 5) = 1; about(0, 4) = 0; run(0, 2) = 2",
            "about(0, 4) = 0; step(0) = 5; about(0, 4) = 1; step(0) = 7; about(0, 0) = 7; about(0, 2) = 2; about(0, 3) = 1");
    }

    private static void item() {
        play.run("17 item",
            "region(0, 1, NONE) = 0; region(2, NONE, NONE) = 1; begin(5) = 0; write(0, 1, 6, -77) = 1; commit(0) = 1; run(0, 9) = 2",
            "begin(5) = 1; item(1, 0, 0) = UNKNOWN; read(1, 1, 6) = -77; write(1, 0, 3, 12) = 1; item(1, 0, 0) = 1",
            "item(1, 0, 1) = 6; item(1, 0, 2) = -77; item(1, 0, 3) = 1; item(1, 0, 4) = NONE; item(1, 1, 0) = 0; item(1, 1, 1) = 3",
            "item(1, 1, 2) = 0; item(1, 1, 3) = 0; item(1, 1, 4) = 12; item(1, 2, 0) = UNKNOWN; item(1, -1, 0) = UNKNOWN",
            "item(1, 0, 5) = OUTSIDE; item(1, 0, -1) = OUTSIDE; item(1, 2, 5) = UNKNOWN; item(2, 0, 0) = UNKNOWN; item(-1, 0, 0) = UNKNOWN",
            "write(1, 1, 6, 0) = 2; item(1, 0, 4) = 0; item(1, 0, 2) = -77; drop(1) = 8; item(1, 0, 4) = 0");
    }
}
