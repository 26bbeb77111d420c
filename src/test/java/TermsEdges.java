/** Terms: the refusals and their order, what is refused; Terms 1: machines, regions, copies, objects. */
final class TermsEdges {
    private final Sentences s;

    TermsEdges(Sentences sentences) {
        s = sentences;
    }

    void play() {
        s.in("Terms");
        orderOfMachineCalls();
        orderOfTransactionCalls();
        unknownMachinesAndRegions();
        unknownObjectsAndTransactions();
        otherRefusals();
        nothingIsChanged();
        s.in("Terms 1");
        machines();
        regions();
        objects();
    }

    private void orderOfMachineCalls() {
        String words = "REFUSALS, of several the first that a call names:";
        s.test(words, "region(): UNKNOWN, STATE, FULL",
            Sentences.each(0, 5, "region(#, NONE, NONE) = #"), "fail(5) = 5; configure() = 0; region(6, 6, NONE) = UNKNOWN",
            "region(0, 0, 6) = UNKNOWN; region(5, 6, NONE) = UNKNOWN; region(0, NONE, 0) = UNKNOWN",
            "region(5, NONE, NONE) = STATE; region(0, 0, NONE) = STATE; region(0, 1, NONE) = FULL");
        s.test(words, "copy(): UNKNOWN, LOST, STATE",
            "region(0, NONE, NONE) = 0; fail(0) = 5; configure() = 0; copy(0, 6) = UNKNOWN; copy(1, 0) = UNKNOWN",
            "copy(0, 0) = LOST; copy(0, 1) = LOST; fail(1) = 4; copy(0, 1) = LOST");
        s.test(words, "machine(): UNKNOWN, OUTSIDE",
            "machine(6, 4) = UNKNOWN; machine(-1, -1) = UNKNOWN; machine(5, 4) = OUTSIDE");
        s.test(words, "object(): UNKNOWN, OUTSIDE",
            "region(0, NONE, NONE) = 0; object(1, 0, 0, 4) = UNKNOWN; object(0, 1, 0, 4) = UNKNOWN",
            "object(0, 0, 8, 4) = UNKNOWN; object(0, 0, 7, 4) = OUTSIDE");
        s.test(words, "begin(): UNKNOWN, STATE, FULL",
            Sentences.each(0, 59, "begin(2) = #"), "begin(3) = FULL; fail(2) = 5; begin(6) = UNKNOWN; begin(2) = STATE",
            "configure() = 0; begin(2) = STATE; begin(3) = FULL");
    }

    private void orderOfTransactionCalls() {
        String words = "REFUSALS, of several the first that a call names:";
        String allAtOnce = "region(0, NONE, NONE) = 0; region(1, NONE, NONE) = 1; region(2, NONE, NONE) = 2; begin(4) = 0; begin(5) = 1;"
            + "drop(0) = 8;" + Sentences.each(0, 7, "read(1, 1, #) = 0") + "fail(0) = 5; configure() = 0";
        s.test(words, "read(): UNKNOWN, STATE, LOST, WAITS, FULL",
            allAtOnce, "read(0, 0, 8) = UNKNOWN; read(0, 3, 0) = UNKNOWN; read(2, 0, 0) = UNKNOWN; read(0, 0, 0) = STATE",
            "read(1, 0, 0) = LOST; read(1, 2, 0) = FULL; fail(5) = 4; read(1, 0, 0) = LOST; read(1, 2, 0) = WAITS",
            "read(1, 1, 0) = WAITS; fail(4) = 3; read(0, 2, 0) = STATE; fail(2) = 2; read(0, 2, 0) = STATE");
        s.test(words, "write(): UNKNOWN, OUTSIDE, STATE, LOST, WAITS, FULL",
            allAtOnce, "write(0, 0, 8, -1) = UNKNOWN; write(0, 3, 0, -1) = UNKNOWN; write(2, 0, 0, -1) = UNKNOWN",
            "write(0, 0, 0, -1) = OUTSIDE; write(0, 0, 0, 1) = STATE; write(1, 0, 0, -1) = OUTSIDE; write(1, 0, 0, 1) = LOST",
            "write(1, 2, 0, -1) = OUTSIDE; write(1, 2, 0, 1) = FULL; fail(5) = 4; write(1, 0, 0, 1) = LOST",
            "write(1, 2, 0, 1) = WAITS; write(1, 2, 0, -9) = OUTSIDE; fail(4) = 3; write(0, 2, 0, 1) = STATE");
        s.test(words, "commit() and drop(): STATE, WAITS",
            "begin(4) = 0; begin(4) = 1; drop(0) = 8; fail(4) = 5; commit(0) = STATE; drop(0) = STATE; commit(1) = WAITS",
            "drop(1) = WAITS");
        s.test(words, "step(): LOST, WAITS",
            "region(0, NONE, NONE) = 0; begin(5) = 0; write(0, 0, 0, 1) = 1; fail(0) = 5; configure() = 0; commit(0) = 1",
            "step(0) = LOST; fail(5) = 4; step(0) = LOST");
        s.test(words, "step(): STATE, WAITS", "begin(5) = 0; fail(5) = 5; step(0) = STATE; run(0, 1) = STATE");
        s.test(words, "run(): UNKNOWN, OUTSIDE, STATE",
            "begin(5) = 0; run(1, 0) = UNKNOWN; run(1, 101) = UNKNOWN; run(0, 0) = OUTSIDE; run(0, 101) = OUTSIDE",
            "run(0, 1) = STATE");
        s.test(words, "about() and item(): UNKNOWN, OUTSIDE",
            "region(0, NONE, NONE) = 0; begin(5) = 0; read(0, 0, 0) = 0; about(1, 6) = UNKNOWN; about(0, 6) = OUTSIDE",
            "item(1, 0, 5) = UNKNOWN; item(0, 1, 5) = UNKNOWN; item(0, 0, 5) = OUTSIDE");
    }

    private void unknownMachinesAndRegions() {
        String words = "UNKNOWN (there is no such MACHINE, REGION, OBJECT, TRANSACTION)";
        for (String none : new String[] {"-1", "6", "NONE", "MIN", "MAX"}) {
            s.test(words, "MACHINE " + none,
                "region(1, NONE, NONE) = 0",
                ("region(#, 1, 2) = UNKNOWN; region(#, NONE, NONE) = UNKNOWN; fail(#) = UNKNOWN; copy(0, #) = UNKNOWN;"
                    + "machine(#, 0) = UNKNOWN; begin(#) = UNKNOWN").replace("#", none));
        }
        for (String none : new String[] {"-1", "1", "5", "6", "NONE", "MIN", "MAX"}) {
            s.test(words, "REGION " + none,
                "region(1, NONE, NONE) = 0; begin(0) = 0",
                ("copy(#, 2) = UNKNOWN; copyAt(#, 0) = UNKNOWN; object(#, 0, 0, 0) = UNKNOWN; read(0, #, 0) = UNKNOWN;"
                    + "write(0, #, 0, 0) = UNKNOWN").replace("#", none));
        }
        s.test(words, "REGION 5 when there are six, 6 never",
            Sentences.each(0, 5, "region(#, NONE, NONE) = #"), "begin(0) = 0; copyAt(5, 0) = 5; read(0, 5, 7) = 0",
            "copy(5, 0) = 2; copyAt(6, 0) = UNKNOWN; read(0, 6, 0) = UNKNOWN; copy(6, 0) = UNKNOWN");
    }

    private void unknownObjectsAndTransactions() {
        String words = "UNKNOWN (there is no such MACHINE, REGION, OBJECT, TRANSACTION)";
        for (String none : new String[] {"-1", "8", "NONE", "MIN", "MAX"}) {
            s.test(words, "OBJECT " + none,
                "region(1, NONE, NONE) = 0; begin(0) = 0",
                "object(0, 0, #, 0) = UNKNOWN; read(0, 0, #) = UNKNOWN; write(0, 0, #, 0) = UNKNOWN".replace("#", none));
        }
        for (String none : new String[] {"-1", "1", "59", "60", "NONE", "MIN", "MAX"}) {
            s.test(words, "TRANSACTION " + none,
                "region(1, NONE, NONE) = 0; begin(0) = 0; read(0, 0, 0) = 0",
                ("read(#, 0, 0) = UNKNOWN; write(#, 0, 0, 0) = UNKNOWN; commit(#) = UNKNOWN; drop(#) = UNKNOWN;"
                    + "step(#) = UNKNOWN; run(#, 1) = UNKNOWN; about(#, 0) = UNKNOWN; item(#, 0, 0) = UNKNOWN").replace("#", none));
        }
        s.test(words, "TRANSACTION 59 when there are sixty, 60 never",
            "region(1, NONE, NONE) = 0", Sentences.each(0, 59, "begin(0) = #"), "read(59, 0, 7) = 0; item(59, 0, 1) = 7",
            "commit(59) = 2; step(59) = 7; about(59, 0) = 7; commit(60) = UNKNOWN; step(60) = UNKNOWN");
    }

    private void otherRefusals() {
        s.test("OUTSIDE (another number is not as told)", "one below and one above what is told",
            "region(0, NONE, NONE) = 0; begin(1) = 0; write(0, 0, 0, 1) = 1; commit(0) = 1; machine(0, -1) = OUTSIDE",
            "machine(0, 4) = OUTSIDE; object(0, 0, 0, -1) = OUTSIDE; object(0, 0, 0, 4) = OUTSIDE; run(0, 0) = OUTSIDE",
            "run(0, 101) = OUTSIDE; about(0, -1) = OUTSIDE; about(0, 6) = OUTSIDE; item(0, 0, -1) = OUTSIDE",
            "item(0, 0, 5) = OUTSIDE; count(-1) = OUTSIDE; count(10) = OUTSIDE; write(0, 0, 0, -1000001) = OUTSIDE",
            "write(0, 0, 0, 1000001) = OUTSIDE; step(0) = 4");
        s.test("OUTSIDE (another number is not as told)", "as far off as can be",
            "region(0, NONE, NONE) = 0; begin(1) = 0; write(0, 0, 0, 1) = 1; commit(0) = 1; machine(0, MIN) = OUTSIDE",
            "machine(0, MAX) = OUTSIDE; object(0, 0, 0, MIN) = OUTSIDE; object(0, 0, 0, MAX) = OUTSIDE; run(0, MIN) = OUTSIDE",
            "run(0, MAX) = OUTSIDE; about(0, MIN) = OUTSIDE; about(0, MAX) = OUTSIDE; item(0, 0, MIN) = OUTSIDE",
            "item(0, 0, MAX) = OUTSIDE; count(MIN) = OUTSIDE; count(MAX) = OUTSIDE; write(0, 0, 0, MIN) = OUTSIDE",
            "write(0, 0, 0, MAX) = OUTSIDE; count(NONE) = OUTSIDE; step(0) = 4");
        s.test("STATE (as told)", "each call that names it",
            "region(0, 0, NONE) = STATE; configure() = STATE; region(0, 1, NONE) = 0; copy(0, 1) = STATE; begin(2) = 0",
            "step(0) = STATE; run(0, 1) = STATE; commit(0) = 7; commit(0) = STATE; drop(0) = STATE; read(0, 0, 0) = STATE",
            "write(0, 0, 0, 0) = STATE; step(0) = STATE; fail(2) = 5; fail(2) = STATE; begin(2) = STATE");
        s.test("FULL", "six regions, sixty transactions, eight objects",
            Sentences.each(0, 5, "region(0, 1, 2) = #"), Sentences.each(0, 59, "begin(3) = #"),
            Sentences.each(0, 5, "read(7, #, 0) = 0"), "read(7, 0, 1) = 0; read(7, 0, 2) = 0; region(0, 1, 2) = FULL",
            "begin(3) = FULL; read(7, 0, 3) = FULL; write(7, 0, 3, 0) = FULL; count(0) = 6; count(1) = 60; about(7, 2) = 8");
        String lost = "LOST (the REGION has no COPY left in the CONFIGURATION)";
        s.test(lost, "not while the GONE ones are MEMBERS",
            "region(0, 1, 2) = 0; begin(5) = 0; fail(0) = 5; fail(1) = 4; fail(2) = 3; count(9) = 0; read(0, 0, 0) = WAITS",
            "copy(0, 3) = STATE; configure() = 0; count(9) = 1; read(0, 0, 0) = LOST; write(0, 0, 0, 1) = LOST",
            "copy(0, 3) = LOST");
        s.test(lost, "not while the last one of three is left",
            "region(0, 1, 2) = 0; begin(5) = 0; fail(0) = 5; fail(1) = 4; configure() = 0; count(9) = 0; read(0, 0, 0) = 0",
            "copyAt(0, 0) = 2; copyAt(0, 1) = NONE; fail(2) = 3; configure() = 0; count(9) = 1; read(0, 0, 0) = LOST");
        s.test("WAITS (as told)", "each call that names it, and none that does not",
            "region(0, 1, NONE) = 0; begin(5) = 0; begin(5) = 1; write(0, 0, 0, 1) = 1; commit(0) = 1; fail(5) = 5",
            "step(0) = WAITS; run(0, 1) = 0; read(1, 0, 1) = WAITS; write(1, 0, 1, 1) = WAITS; commit(1) = WAITS",
            "drop(1) = WAITS; about(1, 0) = 0; item(0, 0, 4) = 1");
    }

    private void nothingIsChanged() {
        String words = "What is refused changes nothing.";
        s.test(words, "the next numbers are those that come",
            "region(0, 0, 1) = STATE; region(0, 6, 1) = UNKNOWN; region(0, 1, 2) = 0; begin(6) = UNKNOWN; fail(5) = 5",
            "begin(5) = STATE; begin(4) = 0; configure() = 0; configure() = STATE; count(2) = 1; fail(5) = STATE; count(4) = 5");
        s.test(words, "what was read and written stays",
            "region(0, NONE, NONE) = 0; region(1, NONE, NONE) = 1; begin(4) = 0; write(0, 0, 0, 7) = 1",
            "write(0, 0, 0, -9) = OUTSIDE; read(0, 0, 0) = 7; fail(0) = 5; write(0, 0, 0, 8) = WAITS; write(0, 0, 1, 8) = WAITS",
            "read(0, 0, 2) = WAITS; about(0, 2) = 1; item(0, 0, 4) = 7; configure() = 0; write(0, 0, 0, 9) = LOST",
            "write(0, 0, 3, 9) = LOST; about(0, 2) = 1; item(0, 0, 4) = 7");
        s.test(words, "what FULL refuses to read and to write",
            "region(0, NONE, NONE) = 0; region(1, NONE, NONE) = 1; begin(4) = 0", Sentences.each(0, 7, "read(0, 0, #) = 0"),
            "write(0, 1, 0, 5) = FULL; read(0, 1, 0) = FULL; about(0, 2) = 8; about(0, 3) = 0; item(0, 8, 0) = UNKNOWN",
            "commit(0) = 2");
        s.test(words, "an ACT that WAITS is done as soon as it may be",
            "region(0, 1, NONE) = 0; begin(4) = 0; read(0, 0, 0) = 0; read(0, 0, 1) = 0; commit(0) = 2; step(0) = 2",
            "fail(0) = 5; step(0) = WAITS; step(0) = WAITS; run(0, 2) = 0; configure() = 0; step(0) = 7");
        s.test(words, "an ACT that is LOST has LOCKED nothing",
            "region(0, NONE, NONE) = 0; region(1, NONE, NONE) = 1; begin(4) = 0; write(0, 1, 0, 1) = 1; write(0, 0, 0, 1) = 2",
            "fail(0) = 5; configure() = 0; commit(0) = 1; step(0) = 1; step(0) = LOST; step(0) = LOST; about(0, 0) = 1",
            "about(0, 5) = 0; count(7) = 1");
        s.test(words, "commit() and drop() that WAIT leave it OPEN",
            "begin(4) = 0; fail(4) = 5; commit(0) = WAITS; drop(0) = WAITS; about(0, 0) = 0; about(0, 5) = 0; count(6) = 0",
            "begin(3) = 1; commit(1) = 7; about(1, 5) = 1");
        s.test(words, "copy() leaves the COPIES",
            "region(0, 1, NONE) = 0; copy(0, 1) = STATE; copyAt(0, 2) = NONE; copy(0, 6) = UNKNOWN; machine(1, 2) = 1",
            "copy(0, 2) = 3");
        s.due("NONE is -9.", "the constant", LockLookMemory.NONE, -9);
        s.test("NONE is -9.", "as an answer and as an argument",
            "check() = -9; unlike() = -9; region(0, -9, -9) = 0; copyAt(0, 1) = -9; object(0, 0, 0, 2) = -9; begin(0) = 0",
            "read(0, 0, 0) = 0; item(0, 0, 4) = -9");
    }

    private void machines() {
        String words = "MACHINES 0 .. 5 are UP (at first) or GONE (for good).";
        s.test(words, "the first and the last",
            "machine(-1, 0) = UNKNOWN", Sentences.each(0, 5, "machine(#, 0) = 1"), "machine(6, 0) = UNKNOWN");
        s.test(words, "none comes back",
            "fail(2) = 5; machine(2, 0) = 0; configure() = 0; machine(2, 0) = 0; fail(2) = STATE; fail(3) = 4; configure() = 0",
            "machine(2, 0) = 0; machine(2, 1) = 0; count(4) = 4");
        String members = "A CONFIGURATION (0 at first) has MEMBERS: at first all MACHINES.";
        s.test(members, "at first", "count(2) = 0; count(3) = 6", Sentences.each(0, 5, "machine(#, 1) = 1"));
        s.test(members, "a GONE one is a MEMBER until there is a new one",
            "fail(0) = 5; machine(0, 1) = 1; count(3) = 6; count(2) = 0; configure() = 0; machine(0, 1) = 0; count(3) = 5",
            "count(2) = 1");
    }

    private void regions() {
        String words = "REGIONS 0 .. 5 have 1 to 3 COPIES, each on another MACHINE, in an order;";
        s.test(words, "six of them",
            Sentences.each(0, 5, "region(#, NONE, NONE) = #"), "region(0, NONE, NONE) = FULL; copyAt(5, 0) = 5",
            "copyAt(6, 0) = UNKNOWN");
        s.test(words, "1, 2 and 3 COPIES",
            "region(4, NONE, NONE) = 0; region(4, 2, NONE) = 1; region(4, 2, 3) = 2; copyAt(0, 0) = 4; copyAt(0, 1) = NONE",
            "copyAt(1, 0) = 4; copyAt(1, 1) = 2; copyAt(1, 2) = NONE; copyAt(2, 0) = 4; copyAt(2, 1) = 2; copyAt(2, 2) = 3",
            "copyAt(2, 3) = NONE");
        s.test(words, "none without a COPY, none with two on one MACHINE",
            "region(NONE, NONE, NONE) = UNKNOWN; region(1, 1, NONE) = STATE; region(1, 1, 2) = STATE; region(2, 1, 1) = STATE",
            "region(1, 2, 1) = STATE");
        s.test(words, "two REGIONS on the same MACHINES are two",
            "region(0, 1, NONE) = 0; region(0, 1, NONE) = 1; begin(5) = 0; write(0, 0, 0, 4) = 1; read(0, 1, 0) = 0",
            "machine(0, 2) = 2");
        String primary = "the PRIMARY is the first one on a MEMBER, the others on MEMBERS are BACKUPS.";
        s.test(primary, "in the order that was told, not by number",
            "region(5, 0, 3) = 0; begin(1) = 0; write(0, 0, 0, 4) = 1; commit(0) = 1; step(0) = 3; object(0, 0, 0, 2) = 0",
            "copyAt(0, 0) = 5; run(0, 2) = 2; machine(0, 3) = 1; machine(3, 3) = 1; machine(5, 3) = 0");
        s.test(primary, "a GONE one stays it while it is a MEMBER",
            "region(5, 0, NONE) = 0; begin(1) = 0; fail(5) = 5; copyAt(0, 0) = 5; read(0, 0, 0) = WAITS; configure() = 0",
            "copyAt(0, 0) = 0; read(0, 0, 0) = 0");
        s.test(primary, "behind two that are no MEMBERS, without BACKUPS",
            "region(5, 0, 3) = 0; fail(5) = 5; fail(0) = 4; configure() = 0; begin(1) = 0; write(0, 0, 0, 4) = 1; commit(0) = 1",
            "step(0) = 4; step(0) = 7; copyAt(0, 0) = 3; object(0, 0, 0, 0) = 4; object(0, 1, 0, 0) = UNKNOWN");
        s.test(primary, "a COPY that came later is a BACKUP, and the PRIMARY when it is the first one left",
            "region(5, NONE, NONE) = 0; copy(0, 1) = 2; begin(2) = 0; write(0, 0, 0, 4) = 1; commit(0) = 1; step(0) = 3",
            "step(0) = 4; machine(1, 3) = 1; run(0, 2) = 2; fail(5) = 5; configure() = 0; copyAt(0, 0) = 1",
            "object(0, 0, 0, 0) = 4");
    }

    private void objects() {
        String words = "Each COPY has 8 OBJECTS 0 .. 7, each with a VALUE and a VERSION (0 and 0 at first);";
        s.test(words, "0 and 0 at first, at each COPY",
            "region(0, 1, 2) = 0",
            Sentences.each(0, 7, "object(0, 0, #, 0) = 0; object(0, 1, #, 0) = 0; object(0, 2, #, 0) = 0"),
            Sentences.each(0, 7, "object(0, 0, #, 1) = 0; object(0, 1, #, 1) = 0; object(0, 2, #, 1) = 0"));
        s.test(words, "the first and the last",
            "region(0, 1, NONE) = 0; begin(5) = 0; object(0, 0, -1, 0) = UNKNOWN; object(0, 0, 8, 0) = UNKNOWN",
            "read(0, 0, -1) = UNKNOWN; read(0, 0, 8) = UNKNOWN; write(0, 0, -1, 5) = UNKNOWN; write(0, 0, 8, 5) = UNKNOWN",
            "write(0, 0, 0, 5) = 1; write(0, 0, 7, 6) = 2; commit(0) = 1; run(0, 100) = 8; object(0, 0, 0, 0) = 5",
            "object(0, 1, 0, 0) = 5; object(0, 0, 7, 0) = 6; object(0, 1, 7, 0) = 6; object(0, 0, 1, 0) = 0",
            "object(0, 0, 6, 0) = 0; object(0, 0, 0, 1) = 1; object(0, 1, 7, 1) = 1; object(0, 1, 6, 1) = 0");
        String locked = "a PRIMARY's OBJECT may be LOCKED by a TRANSACTION.";
        s.test(locked, "by transaction 0, at the PRIMARY alone",
            "region(0, 1, 2) = 0; begin(5) = 0; write(0, 0, 7, 5) = 1; commit(0) = 1; object(0, 0, 7, 2) = NONE; step(0) = 3",
            "object(0, 0, 7, 2) = 0; object(0, 1, 7, 2) = NONE; object(0, 2, 7, 2) = NONE; object(0, 0, 6, 2) = NONE");
        s.test(locked, "all 8 by one",
            "region(0, NONE, NONE) = 0; begin(5) = 0", Sentences.each(0, 7, "read(0, 0, #) = 0"), "write(0, 0, 0, 1) = 1",
            "write(0, 0, 1, 1) = 2; write(0, 0, 2, 1) = 3; write(0, 0, 3, 1) = 4; write(0, 0, 4, 1) = 5; write(0, 0, 5, 1) = 6",
            "write(0, 0, 6, 1) = 7; write(0, 0, 7, 1) = 8; commit(0) = 1; run(0, 8) = 8",
            Sentences.each(0, 7, "object(0, 0, #, 2) = 0"), "count(7) = 8");
    }
}
