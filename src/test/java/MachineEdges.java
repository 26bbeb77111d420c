/** Promises 1 to 8: a new object, machines, regions, copies. */
final class MachineEdges {
    private final Sentences s;

    MachineEdges(Sentences sentences) {
        s = sentences;
    }

    void play() {
        newObject();
        region();
        regionRefusals();
        fail();
        configure();
        copy();
        copyRefusals();
        machine();
        copyAt();
        object();
    }

    private void newObject() {
        s.in("Promise 1");
        s.test("Six MACHINES, no REGIONS, no TRANSACTIONS.", "counted",
            "count(3) = 6; count(4) = 6; count(0) = 0; count(1) = 0; count(2) = 0; count(5) = 0; count(6) = 0; count(7) = 0",
            "count(8) = 0; count(9) = 0");
        s.test("Six MACHINES, no REGIONS, no TRANSACTIONS.", "0 of each but a MACHINE is UNKNOWN",
            "machine(0, 0) = 1; machine(5, 1) = 1; machine(5, 2) = 0; machine(5, 3) = 0; machine(6, 0) = UNKNOWN",
            "copyAt(0, 0) = UNKNOWN; object(0, 0, 0, 0) = UNKNOWN; copy(0, 0) = UNKNOWN; about(0, 0) = UNKNOWN",
            "commit(0) = UNKNOWN; drop(0) = UNKNOWN; step(0) = UNKNOWN; run(0, 1) = UNKNOWN; item(0, 0, 0) = UNKNOWN",
            "read(0, 0, 0) = UNKNOWN; write(0, 0, 0, 0) = UNKNOWN; check() = NONE; unlike() = NONE; configure() = STATE");
    }

    private void region() {
        s.in("Promise 2");
        s.test("A REGION with COPIES on MACHINES a, b, c", "the first and the last MACHINE",
            "region(0, 5, 1) = 0; copyAt(0, 0) = 0; copyAt(0, 1) = 5; copyAt(0, 2) = 1; region(5, 0, 4) = 1; copyAt(1, 0) = 5",
            "copyAt(1, 1) = 0; copyAt(1, 2) = 4");
        s.test("A REGION with COPIES on MACHINES a, b, c", "its OBJECTS are new ones, whatever other REGIONS there have",
            "region(0, 1, NONE) = 0; begin(5) = 0; write(0, 0, 0, 9) = 1; commit(0) = 1; run(0, 100) = 4",
            "region(0, 1, NONE) = 1; object(1, 0, 0, 0) = 0; object(1, 1, 0, 1) = 0; unlike() = NONE");
        String none = "(NONE: there is no such; c NONE if b is):";
        s.test(none, "c NONE",
            "region(3, 2, NONE) = 0; copyAt(0, 0) = 3; copyAt(0, 1) = 2; copyAt(0, 2) = NONE; machine(2, 2) = 1",
            "machine(0, 2) = 0");
        s.test(none, "b and c NONE",
            "region(3, NONE, NONE) = 0; copyAt(0, 0) = 3; copyAt(0, 1) = NONE; machine(3, 2) = 1; machine(0, 2) = 0");
        s.test(none, "b NONE, c not",
            "region(3, NONE, 2) = UNKNOWN; region(3, NONE, 3) = UNKNOWN; region(3, NONE, 6) = UNKNOWN",
            "region(3, NONE, 0) = UNKNOWN; count(0) = 0");
        s.test("its number.", "0 .. 5",
            "count(0) = 0; region(5, NONE, NONE) = 0; count(0) = 1; region(5, 4, NONE) = 1; region(5, 4, 3) = 2",
            "region(0, NONE, NONE) = 3; region(0, 1, NONE) = 4; count(0) = 5; region(0, 1, 2) = 5; count(0) = 6");
        s.test("its number.", "a LOST one keeps its own",
            "region(0, NONE, NONE) = 0; fail(0) = 5; configure() = 0; region(1, NONE, NONE) = 1; count(0) = 2; count(9) = 1");
    }

    private void regionRefusals() {
        String unknown = "UNKNOWN: a, b, c are no MACHINES (b, c may be NONE, b not with c there);";
        s.test(unknown, "a",
            "region(-1, 1, 2) = UNKNOWN; region(6, 1, 2) = UNKNOWN; region(NONE, 1, 2) = UNKNOWN",
            "region(NONE, NONE, NONE) = UNKNOWN; region(MIN, 1, 2) = UNKNOWN; region(MAX, 1, 2) = UNKNOWN",
            "region(-10, 1, 2) = UNKNOWN");
        s.test(unknown, "b",
            "region(0, -1, 2) = UNKNOWN; region(0, 6, 2) = UNKNOWN; region(0, -8, NONE) = UNKNOWN",
            "region(0, -10, NONE) = UNKNOWN; region(0, 6, NONE) = UNKNOWN; region(0, MIN, 2) = UNKNOWN",
            "region(0, MAX, 2) = UNKNOWN");
        s.test(unknown, "c",
            "region(0, 1, -1) = UNKNOWN; region(0, 1, 6) = UNKNOWN; region(0, 1, -8) = UNKNOWN; region(0, 1, -10) = UNKNOWN",
            "region(0, 1, MIN) = UNKNOWN; region(0, 1, MAX) = UNKNOWN");
        s.test(unknown, "b NONE with c there",
            "region(0, NONE, 1) = UNKNOWN; region(0, NONE, 0) = UNKNOWN; region(0, NONE, 5) = UNKNOWN",
            "region(0, NONE, NONE) = 0");
        s.test("STATE: two are one,", "a and b, a and c, b and c, all",
            "region(0, 0, NONE) = STATE; region(0, 0, 1) = STATE; region(0, 1, 0) = STATE; region(1, 0, 0) = STATE",
            "region(5, 5, 5) = STATE; count(0) = 0; region(0, NONE, NONE) = 0");
        String member = "or one is no MEMBER;";
        s.test(member, "a, b and c",
            "fail(2) = 5; configure() = 0; region(2, NONE, NONE) = STATE; region(2, 0, 1) = STATE; region(0, 2, NONE) = STATE",
            "region(0, 2, 1) = STATE; region(0, 1, 2) = STATE; region(0, 1, 3) = 0");
        s.test(member, "a GONE one that is a MEMBER is taken",
            "fail(2) = 5; region(2, NONE, NONE) = 0; region(0, 2, NONE) = 1; region(0, 1, 2) = 2; copyAt(2, 2) = 2",
            "configure() = 0; count(9) = 1; copyAt(2, 2) = NONE");
        s.test("FULL: 6.", "the sixth is taken, the seventh is not",
            Sentences.each(0, 4, "region(0, 1, 2) = #"), "region(0, 1, 2) = 5; region(0, 1, 2) = FULL",
            "region(5, NONE, NONE) = FULL; count(0) = 6");
        s.test("FULL: 6.", "LOST ones count",
            Sentences.each(0, 5, "region(0, NONE, NONE) = #"), "fail(0) = 5; configure() = 0; count(9) = 6",
            "region(1, NONE, NONE) = FULL");
    }

    private void fail() {
        s.in("Promise 3");
        s.test("A MACHINE is GONE: how many are UP.", "from 5 down to 0",
            "fail(5) = 5; fail(0) = 4; fail(3) = 3; fail(1) = 2; fail(4) = 1; fail(2) = 0; count(4) = 0");
        s.test("A MACHINE is GONE: how many are UP.", "UP ones, not MEMBERS",
            "fail(5) = 5; count(3) = 6; configure() = 0; fail(4) = 4; count(3) = 5; count(4) = 4");
        s.test("UNKNOWN;", "below 0 and above 5",
            "fail(-1) = UNKNOWN; fail(6) = UNKNOWN; fail(NONE) = UNKNOWN; fail(MIN) = UNKNOWN; fail(MAX) = UNKNOWN",
            "fail(32) = UNKNOWN; fail(-32) = UNKNOWN; count(4) = 6");
        s.test("STATE: it is GONE already.", "as a MEMBER, as none, and when no MACHINE is UP",
            "fail(0) = 5; fail(0) = STATE; configure() = 0; fail(0) = STATE; fail(1) = 4; fail(2) = 3; fail(3) = 2; fail(4) = 1",
            "fail(5) = 0; fail(5) = STATE; fail(0) = STATE");
    }

    private void configure() {
        s.in("Promise 4");
        s.test("A NEW CONFIGURATION: how many TRANSACTIONS were RECOVERED.", "none, and none of the OPEN ones that it ABORTED",
            "begin(0) = 0; begin(1) = 1; fail(0) = 5; configure() = 0; count(6) = 1; count(2) = 1");
        s.test("A NEW CONFIGURATION: how many TRANSACTIONS were RECOVERED.", "COMMITTED and ABORTED ones together",
            "region(0, 1, NONE) = 0; begin(4) = 0; begin(4) = 1; write(0, 0, 0, 5) = 1; write(1, 0, 1, 5) = 1; commit(0) = 1",
            "commit(1) = 1; run(0, 2) = 2; step(1) = 3; fail(4) = 5; configure() = 2; about(0, 0) = 7; about(1, 0) = 8");
        s.test("A NEW CONFIGURATION: how many TRANSACTIONS were RECOVERED.", "all sixty",
            "region(0, NONE, NONE) = 0", Sentences.each(0, 59, "begin(4) = #; read(#, 0, 0) = 0; commit(#) = 2"), "fail(4) = 5",
            "configure() = 60; count(6) = 60");
        s.test("STATE: all MEMBERS are UP,", "at first and behind a new one",
            "configure() = STATE; count(2) = 0; fail(3) = 5; configure() = 0; configure() = STATE; count(2) = 1; count(3) = 5");
        s.test("STATE: all MEMBERS are UP,", "OPEN and LOCKING ones go on",
            "region(0, NONE, NONE) = 0; begin(4) = 0; begin(4) = 1; write(0, 0, 0, 5) = 1; commit(0) = 1; configure() = STATE",
            "about(0, 0) = 1; about(1, 0) = 0");
        s.test("or no MACHINE is.", "all six at once",
            "fail(0) = 5; fail(1) = 4; fail(2) = 3; fail(3) = 2; fail(4) = 1; fail(5) = 0; configure() = STATE; count(2) = 0",
            "count(3) = 6");
        s.test("or no MACHINE is.", "the last one",
            "fail(0) = 5; fail(1) = 4; fail(2) = 3; fail(3) = 2; fail(4) = 1; configure() = 0; configure() = STATE; fail(5) = 0",
            "configure() = STATE; count(2) = 1; count(3) = 1; machine(5, 1) = 1");
        s.test("or no MACHINE is.", "what is OPEN stays so",
            "begin(0) = 0; fail(0) = 5; fail(1) = 4; fail(2) = 3; fail(3) = 2; fail(4) = 1; fail(5) = 0; configure() = STATE",
            "about(0, 0) = 0; commit(0) = WAITS");
    }

    private void copy() {
        s.in("Promise 5");
        String words = "A REGION has a COPY more, the last one, on a MACHINE: like that of its PRIMARY:";
        s.test(words, "OBJECTS 0 and 7, VALUES and VERSIONS",
            "region(3, NONE, NONE) = 0; begin(5) = 0; write(0, 0, 0, -1000000) = 1; write(0, 0, 7, 1000000) = 2; commit(0) = 1",
            "run(0, 100) = 4; copy(0, 0) = 2; copyAt(0, 0) = 3; copyAt(0, 1) = 0; object(0, 1, 0, 0) = -1000000",
            "object(0, 1, 0, 1) = 1; object(0, 1, 7, 0) = 1000000; object(0, 1, 7, 1) = 1; object(0, 1, 6, 1) = 0",
            "object(0, 1, 0, 2) = NONE; object(0, 1, 0, 3) = 0; unlike() = NONE");
        s.test(words, "the last one, though its MACHINE's number is the lowest",
            "region(3, 4, NONE) = 0; copy(0, 0) = 3; copyAt(0, 0) = 3; copyAt(0, 1) = 4; copyAt(0, 2) = 0; copyAt(0, 3) = NONE");
        s.test(words, "like the PRIMARY of now, the second one that was told",
            "region(3, 4, NONE) = 0; begin(5) = 0; write(0, 0, 2, 8) = 1; commit(0) = 1; run(0, 2) = 2; fail(3) = 5",
            "configure() = 1; copyAt(0, 0) = 4; copy(0, 1) = 2; object(0, 1, 2, 0) = 8; object(0, 1, 2, 1) = 1");
        s.test(words, "the COORDINATOR of OPEN ones may be GONE",
            "region(3, NONE, NONE) = 0; begin(5) = 0; write(0, 0, 0, 1) = 1; fail(5) = 5; copy(0, 0) = 2");
        s.test(words, "from then on it gets RECORDS",
            "region(3, NONE, NONE) = 0; begin(5) = 0; write(0, 0, 0, 1) = 1; copy(0, 0) = 2; commit(0) = 1; step(0) = 3",
            "step(0) = 4; machine(0, 3) = 1; run(0, 100) = 2; object(0, 1, 0, 0) = 1");
        s.test(words, "six in all, from one at first; RECORDS, votes and PRIMARY go by those that are left",
            "region(0, NONE, NONE) = 0; copy(0, 1) = 2; copy(0, 2) = 3; fail(0) = 5; fail(1) = 4; configure() = 0",
            "copy(0, 3) = 2; copy(0, 4) = 3; fail(2) = 3; configure() = 0; copy(0, 5) = 3; copyAt(0, 0) = 3; copyAt(0, 1) = 4",
            "copyAt(0, 2) = 5; copyAt(0, 3) = NONE; begin(5) = 0; write(0, 0, 7, 9) = 1; commit(0) = 1; step(0) = 3",
            "step(0) = 3; machine(4, 3) = 1; step(0) = 4; machine(5, 3) = 1; fail(3) = 2; configure() = 1; about(0, 0) = 7",
            "copyAt(0, 0) = 4; object(0, 0, 7, 0) = 9; object(0, 1, 7, 0) = 9; unlike() = NONE; begin(5) = 1",
            "write(1, 0, 7, 8) = 1; commit(1) = 1; run(1, 100) = 4; object(0, 1, 7, 0) = 8; fail(4) = 1; configure() = 0",
            "read(1, 0, 7) = STATE; begin(5) = 2; read(2, 0, 7) = 8; copy(0, 4) = STATE; copy(0, 5) = STATE");
        s.test("how many COPIES it has on MEMBERS.", "2 and 3", "region(3, NONE, NONE) = 0; copy(0, 0) = 2; copy(0, 1) = 3");
        s.test("how many COPIES it has on MEMBERS.", "those on others are not counted",
            "region(0, 1, 2) = 0; fail(0) = 5; fail(1) = 4; configure() = 0; copy(0, 3) = 2; copy(0, 4) = 3; fail(2) = 3",
            "configure() = 0; copy(0, 5) = 3; copyAt(0, 2) = 5");
        s.test("how many COPIES it has on MEMBERS.", "a GONE MEMBER's is counted",
            "region(0, 1, NONE) = 0; fail(1) = 5; copy(0, 2) = 3");
    }

    private void copyRefusals() {
        s.test("UNKNOWN;", "the REGION, the MACHINE",
            "copy(0, 1) = UNKNOWN; region(0, NONE, NONE) = 0; copy(1, 1) = UNKNOWN; copy(-1, 1) = UNKNOWN",
            "copy(MAX, 1) = UNKNOWN; copy(0, -1) = UNKNOWN; copy(0, 6) = UNKNOWN; copy(0, NONE) = UNKNOWN",
            "copy(0, MIN) = UNKNOWN; copy(0, 5) = 2");
        s.test("LOST;", "ahead of STATE",
            "region(0, NONE, NONE) = 0; region(1, 2, NONE) = 1; fail(0) = 5; copy(0, 1) = STATE; configure() = 0",
            "copy(0, 1) = LOST; copy(0, 0) = LOST; copy(1, 3) = 3");
        s.test("STATE: it has one there,", "the PRIMARY's, a BACKUP's, one that came later",
            "region(0, 1, NONE) = 0; copy(0, 0) = STATE; copy(0, 1) = STATE; region(2, NONE, NONE) = 1; copy(1, 3) = 2",
            "copy(1, 3) = STATE; copy(1, 0) = 3");
        s.test("or the MACHINE is no MEMBER,", "with and without a COPY there",
            "region(0, 1, NONE) = 0; fail(1) = 5; fail(2) = 4; configure() = 0; copy(0, 1) = STATE; copy(0, 2) = STATE",
            "copy(0, 3) = 2");
        s.test("or GONE,", "while it is a MEMBER",
            "region(0, NONE, NONE) = 0; fail(2) = 5; machine(2, 1) = 1; copy(0, 2) = STATE; copy(0, 3) = 2");
        s.test("or its PRIMARY's is,", "while it is a MEMBER; a BACKUP's may be GONE",
            "region(0, 1, NONE) = 0; region(1, 0, NONE) = 1; fail(0) = 5; copy(0, 2) = STATE; copy(1, 2) = 3; configure() = 0",
            "copy(0, 2) = 2");
        s.test("or it has 3 on MEMBERS,", "2, 3, and 3 of which one is GONE",
            "region(0, 1, NONE) = 0; copy(0, 2) = 3; copy(0, 3) = STATE; fail(2) = 5; copy(0, 3) = STATE; configure() = 0",
            "copy(0, 3) = 3; copy(0, 4) = STATE");
        String writes = "or a TRANSACTION that is not OPEN, COMMITTED, ABORTED writes an OBJECT of it.";
        String begun = "region(0, 1, NONE) = 0; region(2, 3, NONE) = 1; begin(5) = 0; begin(5) = 1; read(0, 1, 0) = 0; write(0, 0, 7, 1) = 1;";
        s.test(writes, "OPEN: it may", begun, "copy(0, 4) = 3");
        for (int acts = 0; acts < 5; acts++) {
            s.test(writes, "PHASE " + (acts + 1) + ": it may not, where it only reads it may",
                begun, "commit(0) = 1", acts == 0 ? "" : "run(0, " + acts + ") = " + acts,
                "about(0, 0) = " + (acts + 1) + "; copy(0, 4) = STATE; copy(1, 4) = 3");
        }
        s.test(writes, "UNLOCKING: it may not",
            begun, "write(1, 1, 0, 1) = 1; commit(1) = 1; step(1) = 3; commit(0) = 1; run(0, 2) = 2; about(0, 0) = 6",
            "copy(0, 4) = STATE; step(0) = 8; copy(0, 4) = 3; copy(1, 4) = STATE");
        s.test(writes, "COMMITTED: it may", begun, "commit(0) = 1; run(0, 100) = 5; about(0, 0) = 7; copy(0, 4) = 3");
        s.test(writes, "ABORTED: it may", begun, "drop(0) = 8; copy(0, 4) = 3");
    }

    private void machine() {
        s.in("Promise 6");
        s.test("A MACHINE: what = 0 whether it is UP,", "1 and 0, as a MEMBER and as none",
            "machine(5, 0) = 1; fail(5) = 5; machine(5, 0) = 0; machine(4, 0) = 1; configure() = 0; machine(5, 0) = 0");
        s.test("1 whether it is a MEMBER,", "1 and 0",
            "machine(0, 1) = 1; fail(0) = 5; machine(0, 1) = 1; configure() = 0; machine(0, 1) = 0; machine(1, 1) = 1");
        s.test("2 COPIES on it,", "0 and 6, as PRIMARY, BACKUP and behind copy()",
            Sentences.each(0, 3, "region(0, 1, 2) = #"), "region(1, 0, NONE) = 4; region(3, NONE, NONE) = 5; machine(0, 2) = 5",
            "copy(5, 0) = 2; machine(0, 2) = 6; machine(4, 2) = 0; machine(2, 2) = 4");
        s.test("2 COPIES on it,", "of a GONE one and of one that is no MEMBER, too",
            "region(0, 1, NONE) = 0; fail(0) = 5; machine(0, 2) = 1; configure() = 0; machine(0, 2) = 1; fail(1) = 4",
            "configure() = 0; machine(1, 2) = 1");
        s.test("3 RECORDS in these.", "of several OBJECTS, REGIONS and TRANSACTIONS",
            "region(0, 1, NONE) = 0; region(2, 1, NONE) = 1; begin(5) = 0; begin(5) = 1; write(0, 0, 0, 1) = 1",
            "write(0, 0, 1, 1) = 2; write(0, 1, 0, 1) = 3; write(1, 1, 7, 1) = 1; commit(0) = 1; commit(1) = 1",
            "machine(1, 3) = 0; run(0, 6) = 6; machine(1, 3) = 3; run(1, 2) = 2; machine(1, 3) = 4; machine(0, 3) = 0",
            "fail(1) = 5; machine(1, 3) = 4; configure() = 2; machine(1, 3) = 0");
        s.test("UNKNOWN;", "below 0 and above 5",
            "machine(-1, 0) = UNKNOWN; machine(6, 0) = UNKNOWN; machine(NONE, 0) = UNKNOWN; machine(MIN, 0) = UNKNOWN",
            "machine(MAX, 3) = UNKNOWN; machine(6, 9) = UNKNOWN");
        s.test("OUTSIDE.", "below 0 and above 3",
            "machine(0, -1) = OUTSIDE; machine(0, 4) = OUTSIDE; machine(5, MIN) = OUTSIDE; machine(5, MAX) = OUTSIDE",
            "machine(0, 3) = 0");
    }

    private void copyAt() {
        s.in("Promise 7");
        String words = "COPY i of a REGION, in order (those on MEMBERS alone): its MACHINE;";
        s.test(words, "the first and the third", "region(5, 0, 3) = 0; copyAt(0, 0) = 5; copyAt(0, 1) = 0; copyAt(0, 2) = 3");
        s.test(words, "those behind one that is no MEMBER move up",
            "region(5, 0, 3) = 0; fail(0) = 5; copyAt(0, 1) = 0; configure() = 0; copyAt(0, 0) = 5; copyAt(0, 1) = 3",
            "copyAt(0, 2) = NONE; copy(0, 1) = 3; copyAt(0, 2) = 1");
        s.test("NONE.", "below 0, and at as many as there are",
            "region(5, 0, 3) = 0; region(1, NONE, NONE) = 1; copyAt(0, -1) = NONE; copyAt(0, 3) = NONE; copyAt(1, 1) = NONE",
            "copyAt(0, MIN) = NONE; copyAt(0, MAX) = NONE; copyAt(0, NONE) = NONE");
        s.test("NONE.", "all of a LOST one",
            "region(5, NONE, NONE) = 0; fail(5) = 5; copyAt(0, 0) = 5; configure() = 0; copyAt(0, 0) = NONE",
            "copyAt(0, 1) = NONE");
        s.test("UNKNOWN.", "no such REGION, whatever i is",
            "copyAt(0, 0) = UNKNOWN; region(5, 0, 3) = 0; copyAt(-1, 0) = UNKNOWN; copyAt(1, 0) = UNKNOWN",
            "copyAt(1, -1) = UNKNOWN; copyAt(6, 0) = UNKNOWN; copyAt(MIN, 0) = UNKNOWN; copyAt(MAX, 9) = UNKNOWN");
    }

    private void object() {
        s.in("Promise 8");
        String written = "region(5, 0, 3) = 0; begin(4) = 0; write(0, 0, 7, -1000000) = 1; commit(0) = 1; run(0, 5) = 5; about(0, 0) = 5;";
        s.test("An OBJECT at COPY i of these: what = 0 its VALUE,", "of COPY 0, 1 and 2",
            written, "object(0, 0, 7, 0) = -1000000; object(0, 1, 7, 0) = -1000000; object(0, 2, 7, 0) = 0",
            "object(0, 0, 6, 0) = 0");
        s.test("An OBJECT at COPY i of these: what = 0 its VALUE,", "those on MEMBERS alone",
            written, "step(0) = 7; fail(5) = 5; configure() = 0; object(0, 0, 7, 0) = -1000000; object(0, 1, 7, 0) = -1000000",
            "object(0, 2, 7, 0) = UNKNOWN");
        s.test("1 its VERSION,", "of COPY 0, 1 and 2",
            written, "object(0, 0, 7, 1) = 1; object(0, 1, 7, 1) = 1; object(0, 2, 7, 1) = 0; object(0, 0, 0, 1) = 0");
        s.test("2 the TRANSACTION by which it is LOCKED there (NONE),", "0 and 59",
            "region(5, 0, 3) = 0", Sentences.each(0, 59, "begin(4) = #"), "write(0, 0, 0, 1) = 1; write(59, 0, 7, 1) = 1",
            "commit(0) = 1; commit(59) = 1; object(0, 0, 7, 2) = NONE; step(0) = 3; step(59) = 3; object(0, 0, 0, 2) = 0",
            "object(0, 0, 7, 2) = 59; object(0, 0, 6, 2) = NONE");
        s.test("2 the TRANSACTION by which it is LOCKED there (NONE),", "there: not at BACKUPS, not in another REGION",
            "region(5, 0, 3) = 0; region(5, 0, 3) = 1; begin(4) = 0; write(0, 0, 0, 1) = 1; commit(0) = 1; step(0) = 3",
            "object(0, 0, 0, 2) = 0; object(0, 1, 0, 2) = NONE; object(0, 2, 0, 2) = NONE; object(1, 0, 0, 2) = NONE");
        s.test("3 RECORDS of it there.", "0, 1 and 2",
            "region(0, 1, NONE) = 0; begin(4) = 0; begin(4) = 1; write(0, 0, 0, 1) = 1; commit(0) = 1; step(0) = 3",
            "object(0, 1, 0, 3) = 0; step(0) = 4; object(0, 1, 0, 3) = 1; step(0) = 5; write(1, 0, 0, 2) = 1; commit(1) = 1",
            "run(1, 2) = 2; object(0, 1, 0, 3) = 2; object(0, 0, 0, 3) = 0; object(0, 1, 1, 3) = 0; run(1, 2) = 2",
            "object(0, 1, 0, 3) = 1; step(0) = 7; object(0, 1, 0, 3) = 0");
        s.test("UNKNOWN: also the COPY;", "REGION, COPY, OBJECT",
            "object(0, 0, 0, 0) = UNKNOWN; region(5, 0, NONE) = 0; object(-1, 0, 0, 0) = UNKNOWN; object(1, 0, 0, 0) = UNKNOWN",
            "object(0, -1, 0, 0) = UNKNOWN; object(0, 2, 0, 0) = UNKNOWN; object(0, 0, -1, 0) = UNKNOWN",
            "object(0, 0, 8, 0) = UNKNOWN; object(0, MAX, 0, 0) = UNKNOWN; object(0, MIN, 0, 0) = UNKNOWN",
            "object(0, NONE, 0, 0) = UNKNOWN; object(0, 1, 7, 0) = 0");
        s.test("UNKNOWN: also the COPY;", "one that is on no MEMBER any more, and all of a LOST one",
            "region(5, 0, NONE) = 0; fail(0) = 5; object(0, 1, 0, 0) = 0; configure() = 0; object(0, 1, 0, 0) = UNKNOWN",
            "object(0, 0, 0, 0) = 0; fail(5) = 4; configure() = 0; object(0, 0, 0, 0) = UNKNOWN; object(0, 0, 0, 4) = UNKNOWN");
        s.test("OUTSIDE.", "below 0 and above 3",
            "region(5, 0, NONE) = 0; object(0, 0, 0, -1) = OUTSIDE; object(0, 1, 7, 4) = OUTSIDE",
            "object(0, 0, 0, MIN) = OUTSIDE; object(0, 0, 0, MAX) = OUTSIDE; object(0, 0, 0, 3) = 0");
    }
}
