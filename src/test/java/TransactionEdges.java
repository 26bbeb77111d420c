/** Promises 9 to 17: transactions. */
final class TransactionEdges {
    private static final String REGIONS = "region(0, 1, NONE) = 0; region(2, NONE, NONE) = 1;";

    private final Sentences s;

    TransactionEdges(Sentences sentences) {
        s = sentences;
    }

    void play() {
        begin();
        read();
        readRefusals();
        values();
        write();
        writeAsRead();
        commit();
        drop();
        step();
        run();
        about();
        item();
    }

    private void begin() {
        s.in("Promise 9");
        s.test("A TRANSACTION: its number.", "0 and up, whichever MACHINE it is",
            "begin(5) = 0; begin(0) = 1; begin(5) = 2; count(1) = 3; about(0, 1) = 5; about(1, 1) = 0; about(1, 0) = 0",
            "about(3, 0) = UNKNOWN");
        s.test("UNKNOWN;", "below 0 and above 5",
            "begin(-1) = UNKNOWN; begin(6) = UNKNOWN; begin(NONE) = UNKNOWN; begin(MIN) = UNKNOWN; begin(MAX) = UNKNOWN",
            "count(1) = 0; begin(0) = 0; begin(5) = 1");
        s.test("STATE: the MACHINE is GONE,", "while it is a MEMBER",
            "fail(3) = 5; machine(3, 1) = 1; begin(3) = STATE; count(1) = 0; begin(2) = 0");
        s.test("or no MEMBER;", "behind configure()", "fail(3) = 5; configure() = 0; begin(3) = STATE; begin(4) = 0");
        s.test("FULL: 60.", "the sixtieth is taken, the next is not",
            Sentences.each(0, 58, "begin(1) = #"), "begin(1) = 59; begin(1) = FULL; begin(0) = FULL; count(1) = 60");
        s.test("FULL: 60.", "ended ones count",
            Sentences.each(0, 59, "begin(1) = #; drop(#) = 8"), "begin(1) = FULL; count(6) = 60");
    }

    private void read() {
        s.in("Promise 10");
        s.test("What a TRANSACTION reads of an OBJECT: what it writes there,", "and not what another one writes",
            REGIONS, "begin(4) = 0; begin(4) = 1; write(0, 0, 0, 7) = 1; write(1, 0, 0, 8) = 1; read(0, 0, 0) = 7",
            "read(1, 0, 0) = 8; write(0, 0, 0, 0) = 1; read(0, 0, 0) = 0; read(0, 1, 0) = 0; read(0, 0, 1) = 0");
        s.test("or what it read before,", "though the PRIMARY has another VALUE now",
            REGIONS, "begin(4) = 0; begin(4) = 1; read(0, 0, 0) = 0; write(1, 0, 0, 8) = 1; commit(1) = 1; run(1, 100) = 4",
            "object(0, 0, 0, 0) = 8; read(0, 0, 0) = 0; item(0, 0, 3) = 0; about(0, 2) = 1");
        s.test("or what it read before,", "though the PRIMARY is another one now",
            REGIONS, "begin(4) = 0; begin(4) = 1; read(0, 0, 0) = 0; write(1, 0, 0, 8) = 1; commit(1) = 1; run(1, 100) = 4",
            "fail(0) = 5; configure() = 0; object(0, 0, 0, 0) = 8; read(0, 0, 0) = 0");
        s.test("or the VALUE at the PRIMARY.", "not at the BACKUP",
            REGIONS, "begin(4) = 0; begin(4) = 1; write(0, 0, 0, 8) = 1; commit(0) = 1; run(0, 3) = 3; object(0, 1, 0, 0) = 0",
            "read(1, 0, 0) = 8; item(1, 0, 2) = 8; item(1, 0, 3) = 1");
        s.test("or the VALUE at the PRIMARY.", "of the one that is PRIMARY now",
            "region(0, 1, 2) = 0; begin(4) = 0; write(0, 0, 0, 8) = 1; commit(0) = 1; run(0, 2) = 2; fail(0) = 5",
            "configure() = 1; begin(5) = 1; read(1, 0, 0) = 8; item(1, 0, 3) = 1");
        s.test("UNKNOWN;", "TRANSACTION, REGION, OBJECT",
            REGIONS, "read(0, 0, 0) = UNKNOWN; begin(4) = 0; read(-1, 0, 0) = UNKNOWN; read(1, 0, 0) = UNKNOWN",
            "read(0, -1, 0) = UNKNOWN; read(0, 2, 0) = UNKNOWN; read(0, 0, -1) = UNKNOWN; read(0, 0, 8) = UNKNOWN",
            "read(MIN, MAX, MIN) = UNKNOWN; read(0, MAX, 0) = UNKNOWN; read(0, 0, MIN) = UNKNOWN; about(0, 2) = 0",
            "read(0, 1, 7) = 0");
        String state = "STATE: it is not OPEN;";
        s.test(state, "LOCKING, COMMITTED, ABORTED, read before or not",
            REGIONS, "begin(4) = 0; begin(4) = 1; write(0, 0, 0, 1) = 1; read(1, 0, 1) = 0; commit(0) = 1",
            "read(0, 0, 0) = STATE; read(0, 0, 1) = STATE; run(0, 100) = 4; read(0, 0, 0) = STATE; drop(1) = 8",
            "read(1, 0, 1) = STATE; read(1, 0, 2) = STATE");
        s.test(state, "in each of LOOKING, BACKING, WRITING, CLEANING",
            "region(0, 1, NONE) = 0; begin(4) = 0; read(0, 0, 1) = 0; write(0, 0, 0, 1) = 1; commit(0) = 1; step(0) = 2",
            "read(0, 0, 1) = STATE; step(0) = 3; read(0, 0, 1) = STATE; step(0) = 4; read(0, 0, 1) = STATE; step(0) = 5",
            "read(0, 0, 1) = STATE; step(0) = 7; read(0, 0, 1) = STATE");
    }

    private void readRefusals() {
        s.test("LOST;", "read before or not, written or not",
            REGIONS, "begin(4) = 0; read(0, 1, 0) = 0; write(0, 1, 1, 1) = 1; fail(2) = 5; configure() = 0",
            "read(0, 1, 0) = LOST; read(0, 1, 1) = LOST; read(0, 1, 2) = LOST; read(0, 0, 0) = 0; about(0, 2) = 3");
        s.test("WAITS: its COORDINATOR", "read before or not",
            REGIONS, "begin(4) = 0; begin(5) = 1; read(0, 0, 0) = 0; write(0, 0, 1, 1) = 1; fail(4) = 5; read(0, 0, 0) = WAITS",
            "read(0, 0, 1) = WAITS; read(0, 0, 2) = WAITS; read(0, 1, 0) = WAITS; read(1, 0, 2) = 0");
        s.test("or the PRIMARY's MACHINE is GONE,", "read before or not; a BACKUP's may be",
            REGIONS, "begin(4) = 0; read(0, 0, 0) = 0; write(0, 0, 1, 1) = 1; fail(1) = 5; read(0, 0, 0) = 0; read(0, 0, 2) = 0",
            "fail(0) = 4; read(0, 0, 0) = WAITS; read(0, 0, 1) = WAITS; read(0, 0, 3) = WAITS; read(0, 1, 0) = 0");
        String locked = "or the OBJECT is LOCKED (and it was not read before);";
        s.test(locked, "from the ACT that LOCKS it to the one that writes it",
            REGIONS, "begin(4) = 0; begin(4) = 1; write(0, 0, 0, 8) = 1; commit(0) = 1; begin(4) = 2; read(2, 0, 0) = 0",
            "step(0) = 3; read(1, 0, 0) = WAITS; step(0) = 4; read(1, 0, 0) = WAITS; about(1, 2) = 0; step(0) = 5",
            "read(1, 0, 0) = 8");
        s.test(locked, "read before: what was read",
            REGIONS, "begin(4) = 0; begin(4) = 1; read(1, 0, 0) = 0; write(0, 0, 0, 8) = 1; commit(0) = 1; step(0) = 3",
            "read(1, 0, 0) = 0; write(1, 0, 0, 9) = 1; read(1, 0, 0) = 9");
        s.test(locked, "another OBJECT there is not",
            REGIONS, "begin(4) = 0; begin(4) = 1; write(0, 0, 0, 8) = 1; commit(0) = 1; step(0) = 3; read(1, 0, 0) = WAITS",
            "read(1, 0, 1) = 0; read(1, 1, 0) = 0");
        String full = "FULL: it has 8.";
        s.test(full, "the eighth is read, the ninth is not",
            REGIONS, "begin(4) = 0", Sentences.each(0, 6, "read(0, 0, #) = 0"), "about(0, 2) = 7; read(0, 0, 7) = 0",
            "read(0, 1, 0) = FULL; about(0, 2) = 8");
        s.test(full, "behind WAITS for a LOCK",
            REGIONS, "begin(4) = 0; begin(4) = 1", Sentences.each(0, 7, "read(0, 0, #) = 0"), "write(1, 1, 0, 1) = 1",
            "commit(1) = 1; step(1) = 4; read(0, 1, 0) = WAITS; read(0, 1, 1) = FULL; step(1) = 7; read(0, 1, 0) = FULL");
        String alike = "(Refused alike, whether it was read before or not, but for LOCKED and FULL.)";
        s.test(alike, "FULL: one that was read before is read again",
            REGIONS, "begin(4) = 0", Sentences.each(0, 7, "read(0, 0, #) = 0"), Sentences.each(0, 7, "read(0, 0, #) = 0"),
            "read(0, 1, 0) = FULL");
        s.test(alike, "STATE, LOST, WAITS: it is not",
            REGIONS, "begin(4) = 0; begin(4) = 1; begin(5) = 2; read(0, 0, 0) = 0; read(1, 1, 0) = 0; read(2, 0, 0) = 0",
            "drop(0) = 8; read(0, 0, 0) = STATE; read(0, 0, 1) = STATE; fail(2) = 5; read(1, 1, 0) = WAITS",
            "read(1, 1, 1) = WAITS; configure() = 0; read(1, 1, 0) = LOST; read(1, 1, 1) = LOST; fail(5) = 4",
            "read(2, 0, 0) = WAITS; read(2, 0, 1) = WAITS");
        s.test(alike, "LOCKED, and the PRIMARY's MACHINE GONE: it is not",
            REGIONS, "begin(4) = 0; begin(4) = 1; read(1, 0, 0) = 0; write(0, 0, 0, 8) = 1; commit(0) = 1; step(0) = 3",
            "read(1, 0, 0) = 0; fail(0) = 5; read(1, 0, 0) = WAITS");
    }

    private void values() {
        String words = "VALUES are -1000000 .. -10, 0 .. 1000000.";
        for (String value : new String[] {"-1000000", "-999999", "-11", "-10", "0", "1", "999999", "1000000"}) {
            s.test(words, value + " is one, all the way",
                "region(0, 1, NONE) = 0; begin(4) = 0; begin(4) = 1",
                ("write(0, 0, 0, #) = 1; read(0, 0, 0) = #; item(0, 0, 4) = #; commit(0) = 1; run(0, 100) = 4;"
                    + "object(0, 0, 0, 0) = #; object(0, 1, 0, 0) = #; read(1, 0, 0) = #; item(1, 0, 2) = #;"
                    + "commit(1) = 2; step(1) = 7; check() = NONE").replace("#", value));
        }
        for (String value : new String[] {"MIN", "-1000001", "-9", "-8", "-6", "-5", "-4", "-3", "-2", "-1", "1000001", "MAX"}) {
            s.test(words, value + " is none",
                "region(0, 1, NONE) = 0; begin(4) = 0; write(0, 0, 0, " + value + ") = OUTSIDE; about(0, 2) = 0; about(0, 3) = 0");
        }
    }

    private void write() {
        s.in("Promise 11");
        s.test("A TRANSACTION writes a VALUE (instead of one that it wrote before):", "the last one of three is written",
            REGIONS, "begin(4) = 0; write(0, 0, 0, 7) = 1; write(0, 0, 0, 8) = 1; write(0, 0, 0, 9) = 1; read(0, 0, 0) = 9",
            "about(0, 2) = 1; commit(0) = 1; run(0, 100) = 4; object(0, 0, 0, 0) = 9; object(0, 0, 0, 1) = 1",
            "object(0, 1, 0, 0) = 9");
        s.test("A TRANSACTION writes a VALUE (instead of one that it wrote before):", "nothing is there ahead of commit()",
            REGIONS, "begin(4) = 0; begin(4) = 1; write(0, 0, 0, 7) = 1; object(0, 0, 0, 0) = 0; object(0, 0, 0, 2) = NONE",
            "read(1, 0, 0) = 0");
        s.test("how many OBJECTS it writes.", "1 to 8, those that it only reads are not counted",
            REGIONS, "begin(4) = 0; read(0, 0, 0) = 0; write(0, 0, 1, 1) = 1; write(0, 0, 2, 1) = 2; write(0, 0, 3, 1) = 3",
            "write(0, 0, 4, 1) = 4; write(0, 0, 5, 1) = 5; write(0, 0, 6, 1) = 6; write(0, 0, 7, 1) = 7; about(0, 2) = 8",
            "write(0, 0, 0, 1) = 8; about(0, 3) = 8; write(0, 0, 7, 2) = 8");
        s.test("UNKNOWN;", "TRANSACTION, REGION, OBJECT, ahead of OUTSIDE",
            REGIONS, "write(0, 0, 0, 1) = UNKNOWN; begin(4) = 0; write(-1, 0, 0, 1) = UNKNOWN; write(1, 0, 0, 1) = UNKNOWN",
            "write(0, -1, 0, 1) = UNKNOWN; write(0, 2, 0, 1) = UNKNOWN; write(0, 0, -1, 1) = UNKNOWN",
            "write(0, 0, 8, 1) = UNKNOWN; write(1, 0, 0, -1) = UNKNOWN; write(0, 2, 0, -1) = UNKNOWN",
            "write(0, 0, 8, -1) = UNKNOWN; write(MIN, MAX, MIN, MAX) = UNKNOWN; write(0, 1, 7, 1) = 1");
        s.test("OUTSIDE: no VALUE;", "the edges of both stretches",
            REGIONS, "begin(4) = 0; write(0, 0, 0, -1000001) = OUTSIDE; write(0, 0, 0, -1000000) = 1",
            "write(0, 0, 1, -9) = OUTSIDE; write(0, 0, 1, -10) = 2; write(0, 0, 2, -1) = OUTSIDE; write(0, 0, 2, 0) = 3",
            "write(0, 0, 3, 1000001) = OUTSIDE; write(0, 0, 3, 1000000) = 4; about(0, 2) = 4");
        s.test("OUTSIDE: no VALUE;", "what it wrote before stays",
            REGIONS, "begin(4) = 0; write(0, 0, 0, 7) = 1; write(0, 0, 0, NONE) = OUTSIDE; write(0, 0, 0, MIN) = OUTSIDE",
            "write(0, 0, 0, MAX) = OUTSIDE; read(0, 0, 0) = 7");
        s.test("OUTSIDE: no VALUE;", "ahead of STATE, LOST, WAITS and FULL",
            REGIONS, "begin(4) = 0; begin(4) = 1; begin(5) = 2; drop(0) = 8", Sentences.each(0, 7, "read(1, 0, #) = 0"),
            "write(0, 0, 0, -1) = OUTSIDE; write(1, 1, 0, -1) = OUTSIDE; fail(2) = 5; configure() = 0",
            "write(1, 1, 0, -1) = OUTSIDE; fail(5) = 4; write(2, 0, 0, -1) = OUTSIDE");
    }

    private void writeAsRead() {
        String words = "then as read().";
        s.test(words, "STATE: it is not OPEN",
            REGIONS, "begin(4) = 0; begin(4) = 1; write(0, 0, 0, 1) = 1; commit(0) = 1; write(0, 0, 0, 2) = STATE",
            "write(0, 0, 1, 2) = STATE; run(0, 100) = 4; write(0, 0, 0, 2) = STATE; drop(1) = 8; write(1, 0, 0, 2) = STATE",
            "item(0, 0, 4) = 1");
        s.test(words, "LOST",
            REGIONS, "begin(4) = 0; write(0, 1, 0, 1) = 1; read(0, 1, 1) = 0; fail(2) = 5; configure() = 0",
            "write(0, 1, 0, 2) = LOST; write(0, 1, 1, 2) = LOST; write(0, 1, 2, 2) = LOST; write(0, 0, 0, 2) = 2",
            "item(0, 0, 4) = 1");
        s.test(words, "WAITS: its COORDINATOR",
            REGIONS, "begin(4) = 0; write(0, 0, 0, 1) = 1; read(0, 0, 1) = 0; fail(4) = 5; write(0, 0, 0, 2) = WAITS",
            "write(0, 0, 1, 2) = WAITS; write(0, 0, 2, 2) = WAITS; item(0, 0, 4) = 1");
        s.test(words, "WAITS: the PRIMARY's MACHINE",
            REGIONS, "begin(4) = 0; write(0, 0, 0, 1) = 1; read(0, 0, 1) = 0; fail(0) = 5; write(0, 0, 0, 2) = WAITS",
            "write(0, 0, 1, 2) = WAITS; write(0, 0, 2, 2) = WAITS; write(0, 1, 0, 2) = 2; item(0, 0, 4) = 1");
        s.test(words, "WAITS: LOCKED, and it was not read before",
            REGIONS, "begin(4) = 0; begin(4) = 1; begin(4) = 2; read(2, 0, 0) = 0; write(0, 0, 0, 1) = 1; commit(0) = 1",
            "step(0) = 3; write(1, 0, 0, 2) = WAITS; about(1, 2) = 0; write(2, 0, 0, 2) = 1; write(2, 0, 0, 3) = 1");
        s.test(words, "FULL: it has 8",
            REGIONS, "begin(4) = 0", Sentences.each(0, 6, "read(0, 0, #) = 0"), "write(0, 0, 7, 1) = 1",
            "write(0, 1, 0, 1) = FULL; write(0, 0, 7, 2) = 1; write(0, 0, 0, 2) = 2; about(0, 2) = 8");
        s.test(words, "WAITS for a LOCK ahead of FULL",
            REGIONS, "begin(4) = 0; begin(4) = 1", Sentences.each(0, 7, "read(0, 0, #) = 0"), "write(1, 1, 0, 1) = 1",
            "commit(1) = 1; step(1) = 4; write(0, 1, 0, 1) = WAITS; write(0, 1, 1, 1) = FULL");
    }

    private void commit() {
        s.in("Promise 12");
        s.test("A TRANSACTION is to commit: its PHASE then.", "LOCKING, LOOKING, COMMITTED",
            REGIONS, "begin(4) = 0; begin(4) = 1; begin(4) = 2; write(0, 0, 0, 1) = 1; read(1, 0, 1) = 0; commit(0) = 1",
            "commit(1) = 2; commit(2) = 7; about(0, 0) = 1; about(1, 0) = 2; about(2, 0) = 7");
        s.test("A TRANSACTION is to commit: its PHASE then.", "no ACT is done by it",
            REGIONS, "begin(4) = 0; write(0, 0, 0, 1) = 1; commit(0) = 1; count(7) = 0; object(0, 0, 0, 2) = NONE",
            "about(0, 5) = 0");
        s.test("A TRANSACTION is to commit: its PHASE then.", "the PRIMARY may be GONE, the REGION LOST",
            REGIONS, "begin(4) = 0; begin(4) = 1; write(0, 1, 0, 1) = 1; read(1, 1, 0) = 0; fail(2) = 5; commit(0) = 1",
            "step(0) = WAITS; configure() = 1; commit(1) = 2; step(1) = LOST");
        s.test("UNKNOWN;", "below 0, as many as there are, 60",
            "commit(0) = UNKNOWN; begin(4) = 0; commit(-1) = UNKNOWN; commit(1) = UNKNOWN; commit(60) = UNKNOWN",
            "commit(NONE) = UNKNOWN; commit(MIN) = UNKNOWN; commit(MAX) = UNKNOWN; about(0, 0) = 0");
        s.test("STATE: it is not OPEN;", "LOCKING to CLEANING, COMMITTED",
            "region(0, 1, NONE) = 0; begin(4) = 0; read(0, 0, 1) = 0; write(0, 0, 0, 1) = 1; commit(0) = 1; commit(0) = STATE",
            "step(0) = 2; commit(0) = STATE; step(0) = 3; commit(0) = STATE; step(0) = 4; commit(0) = STATE; step(0) = 5",
            "commit(0) = STATE; step(0) = 7; commit(0) = STATE");
        s.test("STATE: it is not OPEN;", "UNLOCKING, ABORTED",
            "region(0, 1, NONE) = 0; begin(4) = 0; begin(4) = 1; read(0, 0, 1) = 0; write(0, 0, 0, 1) = 1",
            "write(1, 0, 1, 1) = 1; commit(1) = 1; step(1) = 3; commit(0) = 1; run(0, 2) = 2; about(0, 0) = 6",
            "commit(0) = STATE; step(0) = 8; commit(0) = STATE");
        s.test("WAITS: its COORDINATOR is GONE.", "until it is no MEMBER: then it is ABORTED",
            "begin(4) = 0; begin(3) = 1; fail(4) = 5; commit(0) = WAITS; commit(1) = 7; about(0, 0) = 0; configure() = 0",
            "commit(0) = STATE; about(0, 0) = 8");
    }

    private void drop() {
        s.in("Promise 13");
        s.test("An OPEN TRANSACTION is ABORTED: 8.", "with and without OBJECTS",
            REGIONS, "begin(4) = 0; begin(4) = 1; write(0, 0, 0, 1) = 1; drop(0) = 8; about(0, 0) = 8; drop(1) = 8",
            "about(1, 0) = 8; count(6) = 2; object(0, 0, 0, 1) = 0; about(0, 2) = 1; about(0, 4) = 0; about(0, 5) = 0");
        s.test("An OPEN TRANSACTION is ABORTED: 8.", "the REGION may be LOST",
            REGIONS, "begin(4) = 0; write(0, 1, 0, 1) = 1; fail(2) = 5; drop(0) = 8; begin(4) = 1; configure() = 0; drop(1) = 8");
        s.test("As commit().", "UNKNOWN",
            "drop(0) = UNKNOWN; begin(4) = 0; drop(-1) = UNKNOWN; drop(1) = UNKNOWN; drop(60) = UNKNOWN; drop(NONE) = UNKNOWN",
            "drop(MIN) = UNKNOWN; drop(MAX) = UNKNOWN; about(0, 0) = 0");
        s.test("As commit().", "STATE: LOCKING to CLEANING, COMMITTED",
            "region(0, 1, NONE) = 0; begin(4) = 0; read(0, 0, 1) = 0; write(0, 0, 0, 1) = 1; commit(0) = 1; drop(0) = STATE",
            "step(0) = 2; drop(0) = STATE; step(0) = 3; drop(0) = STATE; step(0) = 4; drop(0) = STATE; step(0) = 5",
            "drop(0) = STATE; step(0) = 7; drop(0) = STATE");
        s.test("As commit().", "STATE: UNLOCKING, ABORTED",
            "region(0, 1, NONE) = 0; begin(4) = 0; begin(4) = 1; read(0, 0, 1) = 0; write(0, 0, 0, 1) = 1",
            "write(1, 0, 1, 1) = 1; commit(1) = 1; step(1) = 3; commit(0) = 1; run(0, 2) = 2; about(0, 0) = 6; drop(0) = STATE",
            "step(0) = 8; drop(0) = STATE");
        s.test("As commit().", "WAITS, and STATE ahead of it",
            "begin(4) = 0; begin(4) = 1; drop(1) = 8; fail(4) = 5; drop(0) = WAITS; drop(1) = STATE; about(0, 0) = 0",
            "configure() = 0; drop(0) = STATE");
    }

    private void step() {
        s.in("Promise 14");
        s.test("An ACT of a TRANSACTION: its PHASE then.", "each of two of a kind, then the next PHASE",
            "region(0, 1, NONE) = 0; begin(4) = 0; read(0, 0, 0) = 0; read(0, 0, 1) = 0; write(0, 0, 2, 1) = 1",
            "write(0, 0, 3, 1) = 2; commit(0) = 1; step(0) = 1; step(0) = 2; step(0) = 2; step(0) = 3; step(0) = 3; step(0) = 4",
            "step(0) = 4; step(0) = 5; step(0) = 5; step(0) = 7; step(0) = STATE");
        s.test("UNKNOWN;", "below 0, as many as there are, 60",
            "step(0) = UNKNOWN; begin(4) = 0; step(-1) = UNKNOWN; step(1) = UNKNOWN; step(60) = UNKNOWN; step(NONE) = UNKNOWN",
            "step(MIN) = UNKNOWN; step(MAX) = UNKNOWN");
        s.test("STATE: it is OPEN, COMMITTED, ABORTED;", "with and without OBJECTS",
            REGIONS, "begin(4) = 0; step(0) = STATE; write(0, 0, 0, 1) = 1; step(0) = STATE; count(7) = 0; commit(0) = 1",
            "run(0, 100) = 4; step(0) = STATE; begin(4) = 1; step(1) = STATE; commit(1) = 7; step(1) = STATE; begin(4) = 2",
            "write(2, 0, 0, 1) = 1; drop(2) = 8; step(2) = STATE");
        s.test("STATE: it is OPEN, COMMITTED, ABORTED;", "whichever MACHINES are GONE, whichever REGION is LOST",
            REGIONS, "begin(4) = 0; begin(3) = 1; read(0, 1, 0) = 0; read(1, 1, 0) = 0; drop(1) = 8; fail(2) = 5",
            "step(0) = STATE; configure() = 0; step(0) = STATE; step(1) = STATE; fail(4) = 4; step(0) = STATE");
        s.test("LOST;", "not while the PRIMARY is GONE and a MEMBER",
            REGIONS, "begin(4) = 0; read(0, 1, 0) = 0; commit(0) = 2; fail(2) = 5; step(0) = WAITS; configure() = 0",
            "step(0) = LOST; about(0, 0) = 2");
        s.test("WAITS.", "the COORDINATOR, then the PRIMARY",
            REGIONS, "begin(4) = 0; begin(3) = 1; write(0, 0, 0, 1) = 1; write(1, 0, 1, 1) = 1; commit(0) = 1; commit(1) = 1",
            "fail(4) = 5; step(0) = WAITS; step(1) = 3; fail(1) = 4; step(1) = WAITS; count(7) = 1; count(8) = 0");
    }

    private void run() {
        s.in("Promise 15");
        String all = "region(0, 1, 2) = 0; begin(4) = 0; write(0, 0, 0, 1) = 1; commit(0) = 1;";
        String words = "ACTS of a TRANSACTION, n at most (1 .. 100),";
        s.test(words, "1", all, "run(0, 1) = 1; about(0, 0) = 3; run(0, 1) = 1; about(0, 0) = 3; run(0, 1) = 1; about(0, 0) = 4");
        s.test(words, "100", all, "run(0, 100) = 6; about(0, 0) = 7");
        s.test(words, "one less than there are, as many, one more",
            all, "run(0, 5) = 5; about(0, 0) = 5; begin(4) = 1; begin(4) = 2; write(1, 0, 1, 1) = 1; write(2, 0, 2, 1) = 1",
            "commit(1) = 1; commit(2) = 1; run(1, 6) = 6; about(1, 0) = 7; run(2, 7) = 6; about(2, 0) = 7");
        s.test(words, "the longest of all: eight OBJECTS with two BACKUPS each",
            "region(0, 1, 2) = 0; begin(4) = 0; write(0, 0, 0, 1) = 1; write(0, 0, 1, 1) = 2; write(0, 0, 2, 1) = 3",
            "write(0, 0, 3, 1) = 4; write(0, 0, 4, 1) = 5; write(0, 0, 5, 1) = 6; write(0, 0, 6, 1) = 7; write(0, 0, 7, 1) = 8",
            "commit(0) = 1; run(0, 100) = 48; about(0, 0) = 7; unlike() = NONE; count(8) = 0");
        s.test("as long as none is refused,", "the third one WAITS",
            all, "fail(2) = 5; run(0, 100) = 2; about(0, 0) = 3; run(0, 100) = 0; run(0, 1) = 0; step(0) = WAITS");
        s.test("as long as none is refused,", "the first one is LOST: 0, and no refusal",
            "region(0, NONE, NONE) = 0; begin(4) = 0; read(0, 0, 0) = 0; fail(0) = 5; configure() = 0; commit(0) = 2",
            "run(0, 100) = 0; step(0) = LOST; about(0, 0) = 2");
        s.test("and it is not COMMITTED, ABORTED:", "ABORTED, by way of UNLOCKING",
            "region(0, NONE, NONE) = 0; begin(4) = 0; begin(4) = 1; write(0, 0, 1, 1) = 1; write(0, 0, 0, 1) = 2",
            "write(1, 0, 0, 1) = 1; commit(1) = 1; step(1) = 4; commit(0) = 1; run(0, 100) = 3; about(0, 0) = 8",
            "run(0, 1) = STATE");
        s.test("and it is not COMMITTED, ABORTED:", "COMMITTED by one ACT",
            "region(0, NONE, NONE) = 0; begin(4) = 0; read(0, 0, 0) = 0; commit(0) = 2; run(0, 100) = 1; about(0, 0) = 7",
            "run(0, 1) = STATE");
        s.test("how many were done.", "the ones that were done are done",
            all, "run(0, 3) = 3; count(8) = 2; count(7) = 1; run(0, 2) = 2; count(8) = 1; count(7) = 0; object(0, 1, 0, 0) = 1",
            "object(0, 2, 0, 0) = 0");
        s.test("UNKNOWN;", "ahead of OUTSIDE",
            "run(0, 1) = UNKNOWN; begin(4) = 0; run(-1, 1) = UNKNOWN; run(1, 1) = UNKNOWN; run(60, 1) = UNKNOWN",
            "run(1, 0) = UNKNOWN; run(-1, 101) = UNKNOWN; run(MIN, MAX) = UNKNOWN");
        s.test("OUTSIDE;", "0 and 101, -1 and far off",
            all, "run(0, 0) = OUTSIDE; run(0, 101) = OUTSIDE; run(0, -1) = OUTSIDE; run(0, MIN) = OUTSIDE",
            "run(0, MAX) = OUTSIDE; run(0, NONE) = OUTSIDE; about(0, 0) = 1; count(7) = 0");
        s.test("OUTSIDE;", "ahead of STATE",
            "begin(4) = 0; run(0, 0) = OUTSIDE; run(0, 101) = OUTSIDE; run(0, 1) = STATE; run(0, 100) = STATE; drop(0) = 8",
            "run(0, 0) = OUTSIDE; run(0, 100) = STATE");
        s.test("STATE: as step().", "OPEN, COMMITTED, ABORTED",
            REGIONS, "begin(4) = 0; write(0, 0, 0, 1) = 1; run(0, 1) = STATE; count(7) = 0; commit(0) = 1; run(0, 4) = 4",
            "run(0, 1) = STATE; begin(4) = 1; drop(1) = 8; run(1, 100) = STATE; fail(4) = 5; run(1, 100) = STATE");
    }

    private void about() {
        s.in("Promise 16");
        s.test("Of a TRANSACTION: 0 its PHASE,", "OPEN and ended",
            "begin(4) = 0; begin(4) = 1; about(0, 0) = 0; commit(0) = 7; about(0, 0) = 7; drop(1) = 8; about(1, 0) = 8");
        s.test("1 its COORDINATOR,", "the first and the last MACHINE, GONE or not",
            "begin(0) = 0; begin(5) = 1; about(0, 1) = 0; about(1, 1) = 5; fail(5) = 5; about(1, 1) = 5; configure() = 0",
            "about(1, 1) = 5");
        s.test("2 OBJECTS it has,", "0 and 8, read or written",
            REGIONS, "begin(4) = 0; about(0, 2) = 0", Sentences.each(0, 6, "read(0, 0, #) = 0"), "about(0, 2) = 7",
            "write(0, 1, 0, 1) = 1; about(0, 2) = 8; read(0, 0, 0) = 0; about(0, 2) = 8; drop(0) = 8; about(0, 2) = 8");
        s.test("3 those that it writes,", "0, 1 and 2",
            REGIONS, "begin(4) = 0; read(0, 0, 0) = 0; about(0, 3) = 0; write(0, 0, 1, 1) = 1; about(0, 3) = 1",
            "write(0, 0, 1, 2) = 1; about(0, 3) = 1; write(0, 0, 0, 2) = 2; about(0, 3) = 2; commit(0) = 1; run(0, 100) = 8",
            "about(0, 3) = 2");
        s.test("4 whether it is DECIDED,", "0 ahead of WRITING's first ACT, 1 from then on",
            REGIONS, "begin(4) = 0; about(0, 4) = 0; write(0, 0, 0, 1) = 1; write(0, 0, 1, 1) = 2; commit(0) = 1; run(0, 4) = 4",
            "about(0, 0) = 4; about(0, 4) = 0; step(0) = 4; about(0, 4) = 1; run(0, 100) = 3; about(0, 4) = 1");
        s.test("4 whether it is DECIDED,", "0 for one without WRITES and one that is ABORTED",
            REGIONS, "begin(4) = 0; begin(4) = 1; begin(4) = 2; read(0, 0, 0) = 0; commit(0) = 2; step(0) = 7; about(0, 4) = 0",
            "commit(1) = 7; about(1, 4) = 0; write(2, 0, 0, 1) = 1; drop(2) = 8; about(2, 4) = 0");
        s.test("5 its PLACE (0: none).", "0 and 1",
            REGIONS, "begin(4) = 0; begin(4) = 1; write(0, 0, 0, 1) = 1; about(0, 5) = 0; commit(0) = 1; about(0, 5) = 0",
            "step(0) = 3; about(0, 5) = 1; drop(1) = 8; about(1, 5) = 0");
        s.test("UNKNOWN;", "ahead of OUTSIDE",
            "about(0, 0) = UNKNOWN; begin(4) = 0; about(-1, 0) = UNKNOWN; about(1, 0) = UNKNOWN; about(60, 5) = UNKNOWN",
            "about(1, 6) = UNKNOWN; about(-1, -1) = UNKNOWN; about(MIN, 0) = UNKNOWN; about(MAX, 0) = UNKNOWN");
        s.test("OUTSIDE.", "below 0 and above 5",
            "begin(4) = 0; about(0, -1) = OUTSIDE; about(0, 6) = OUTSIDE; about(0, MIN) = OUTSIDE; about(0, MAX) = OUTSIDE",
            "about(0, NONE) = OUTSIDE; about(0, 5) = 0");
    }

    private void item() {
        s.in("Promise 17");
        String begun = REGIONS + "begin(4) = 0; write(0, 0, 7, 70) = 1; commit(0) = 1; run(0, 100) = 4;"
            + "begin(4) = 1; read(1, 1, 6) = 0; write(1, 0, 7, 71) = 1;";
        s.test("OBJECT i of a TRANSACTION, in order: 0 its REGION,", "of the first and of the last",
            begun, "item(1, 0, 0) = 1; item(1, 1, 0) = 0");
        s.test("1 its number there,", "of the first and of the last", begun, "item(1, 0, 1) = 6; item(1, 1, 1) = 7");
        s.test("2 the VALUE that was read,", "also of one that is written",
            begun, "item(1, 0, 2) = 0; item(1, 1, 2) = 70; write(1, 0, 7, 72) = 1; item(1, 1, 2) = 70; commit(1) = 1",
            "run(1, 100) = 5; about(1, 0) = 7; item(1, 1, 2) = 70");
        s.test("3 its VERSION,", "the one that was read",
            begun, "item(1, 0, 3) = 0; item(1, 1, 3) = 1; commit(1) = 1; run(1, 100) = 5; about(1, 0) = 7; item(1, 1, 3) = 1",
            "object(0, 0, 7, 1) = 2");
        s.test("4 the VALUE that it writes; NONE: it writes none.", "NONE, then a VALUE, 0 too",
            begun, "item(1, 0, 4) = NONE; item(1, 1, 4) = 71; write(1, 1, 6, 0) = 2; item(1, 0, 4) = 0; write(1, 1, 6, -10) = 2",
            "item(1, 0, 4) = -10; drop(1) = 8; item(1, 0, 4) = -10");
        s.test("UNKNOWN: also i;", "no such TRANSACTION, i below 0 and as many as there are",
            "item(0, 0, 0) = UNKNOWN", begun, "item(2, 0, 0) = UNKNOWN; item(-1, 0, 0) = UNKNOWN; item(60, 0, 0) = UNKNOWN",
            "item(1, -1, 0) = UNKNOWN; item(1, 2, 0) = UNKNOWN; item(1, 8, 0) = UNKNOWN; item(1, MIN, 0) = UNKNOWN",
            "item(1, MAX, 0) = UNKNOWN; item(MAX, 0, 0) = UNKNOWN; item(1, NONE, 0) = UNKNOWN");
        s.test("UNKNOWN: also i;", "one without OBJECTS; the eighth of eight",
            REGIONS, "begin(4) = 0; item(0, 0, 0) = UNKNOWN", Sentences.each(0, 7, "read(0, 0, #) = 0"), "item(0, 7, 1) = 7",
            "item(0, 8, 1) = UNKNOWN; read(0, 1, 0) = FULL; item(0, 8, 1) = UNKNOWN");
        s.test("UNKNOWN: also i;", "ahead of OUTSIDE",
            begun, "item(1, 2, 5) = UNKNOWN; item(2, 0, 5) = UNKNOWN; item(1, -1, -1) = UNKNOWN");
        s.test("OUTSIDE.", "below 0 and above 4",
            begun, "item(1, 0, -1) = OUTSIDE; item(1, 0, 5) = OUTSIDE; item(1, 1, 5) = OUTSIDE; item(1, 0, MIN) = OUTSIDE",
            "item(1, 0, MAX) = OUTSIDE; item(1, 0, NONE) = OUTSIDE");
    }
}
