/** Promises 18 to 20: all of it. */
final class WholeEdges {
    /** Transaction 0 has written 7 in region 0, not yet 8 in region 1; 1, 2 and 3 are OPEN. */
    private static final String HALF_WRITTEN =
        "region(0, NONE, NONE) = 0; region(1, NONE, NONE) = 1;" + Sentences.each(0, 3, "begin(5) = #")
        + "write(0, 0, 0, 7) = 1; write(0, 1, 0, 8) = 2; commit(0) = 1; run(0, 3) = 3; about(0, 0) = 4";

    private final Sentences s;

    WholeEdges(Sentences sentences) {
        s = sentences;
    }

    void play() {
        check();
        unlike();
        count();
        countOfWhatIsHeld();
    }

    private void check() {
        s.in("Promise 18");
        String first = "The first COMMITTED TRANSACTION, by PLACE,";
        s.test(first, "by PLACE, not by number",
            HALF_WRITTEN, "read(2, 0, 0) = 7; commit(2) = 2; step(2) = 7; read(1, 0, 0) = 7; commit(1) = 2; step(1) = 7",
            "about(2, 5) = 2; about(1, 5) = 3; check() = 2");
        s.test(first, "by PLACE, not as they ended",
            HALF_WRITTEN, "read(1, 0, 0) = 7; read(2, 0, 0) = 7; commit(2) = 2; commit(1) = 2; step(1) = 7; check() = 1",
            "step(2) = 7; check() = 2");
        s.test(first, "one that is not COMMITTED yet is not told",
            HALF_WRITTEN, "read(1, 0, 0) = 7; check() = NONE; commit(1) = 2; check() = NONE; step(1) = 7; check() = 1");
        s.test(first, "one that is ABORTED is not told",
            HALF_WRITTEN, "read(1, 0, 0) = 7; read(2, 0, 0) = 7; drop(1) = 8; fail(0) = 5; configure() = 1; about(0, 0) = 8",
            "check() = NONE");
        s.test(first, "transaction 0 can be it",
            "region(0, NONE, NONE) = 0; region(1, NONE, NONE) = 1; begin(5) = 0; begin(5) = 1; write(1, 0, 0, 7) = 1",
            "write(1, 1, 0, 8) = 2; commit(1) = 1; run(1, 3) = 3; read(0, 0, 0) = 7; commit(0) = 2; step(0) = 7; check() = 0",
            "step(1) = 7; check() = NONE");
        s.test(first, "transaction 59 can be it",
            "region(0, NONE, NONE) = 0; region(1, NONE, NONE) = 1", Sentences.each(0, 59, "begin(5) = #"),
            "write(0, 0, 0, 7) = 1; write(0, 1, 0, 8) = 2; commit(0) = 1; run(0, 3) = 3; read(59, 0, 0) = 7; commit(59) = 2",
            "step(59) = 7; check() = 59");
        String left = "that read a VALUE that is not the one which the COMMITTED ones ahead of it left, done one behind the other;";
        s.test(left, "one that is WRITING has left nothing yet",
            HALF_WRITTEN, "read(1, 0, 0) = 7; commit(1) = 2; step(1) = 7; check() = 1; step(0) = 7; check() = NONE");
        s.test(left, "one that was ABORTED has left nothing",
            HALF_WRITTEN, "read(1, 0, 0) = 7; commit(1) = 2; step(1) = 7; fail(0) = 5; configure() = 1; about(0, 0) = 8",
            "check() = 1");
        s.test(left, "what is written was read, too",
            HALF_WRITTEN, "write(1, 0, 0, 9) = 1; commit(1) = 1; run(1, 100) = 2; check() = 1; step(0) = 7; check() = NONE");
        s.test(left, "the second OBJECT of one, read behind a right one",
            HALF_WRITTEN, "read(1, 0, 1) = 0; read(1, 0, 0) = 7; commit(1) = 2; run(1, 100) = 2; about(1, 0) = 7; check() = 1");
        s.test(left, "the VALUE alone: another VERSION of the same is fine",
            "region(0, NONE, NONE) = 0; region(1, NONE, NONE) = 1; begin(5) = 0; begin(5) = 1; write(0, 0, 0, 0) = 1",
            "write(0, 1, 0, 8) = 2; commit(0) = 1; run(0, 3) = 3; read(1, 0, 0) = 0; item(1, 0, 3) = 1; commit(1) = 2",
            "step(1) = 7; check() = NONE");
        s.test(left, "the last of several is what is left",
            "region(0, 1, NONE) = 0; begin(5) = 0; write(0, 0, 0, 5) = 1; commit(0) = 1; run(0, 100) = 4; begin(5) = 1",
            "write(1, 0, 0, 6) = 1; commit(1) = 1; run(1, 100) = 4; begin(5) = 2; read(2, 0, 0) = 6; commit(2) = 2; step(2) = 7",
            "check() = NONE");
        s.test(left, "what was left by one that the votes COMMITTED",
            "region(0, 1, NONE) = 0; begin(5) = 0; write(0, 0, 0, 5) = 1; commit(0) = 1; run(0, 2) = 2; fail(5) = 5",
            "configure() = 1; begin(4) = 1; read(1, 0, 0) = 5; commit(1) = 2; step(1) = 7; check() = NONE");
        s.test(left, "one that only reads leaves what was there",
            "region(0, 1, NONE) = 0; begin(5) = 0; write(0, 0, 0, 5) = 1; commit(0) = 1; run(0, 100) = 4; begin(5) = 1",
            "begin(5) = 2; read(1, 0, 0) = 5; read(1, 0, 1) = 0; write(1, 0, 2, 3) = 1; commit(1) = 1; run(1, 100) = 6",
            "about(1, 0) = 7; read(2, 0, 0) = 5; read(2, 0, 1) = 0; read(2, 0, 2) = 3; commit(2) = 2; run(2, 100) = 3",
            "about(2, 0) = 7; check() = NONE");
        s.test(left, "of a LOST REGION, too",
            HALF_WRITTEN, "read(1, 0, 0) = 7; commit(1) = 2; step(1) = 7; fail(0) = 5; fail(1) = 4; configure() = 1",
            "count(9) = 2; check() = 1");
        s.test(left, "each OBJECT of each REGION is its own, the last ones too",
            Sentences.each(0, 5, "region(0, NONE, NONE) = #"), "begin(5) = 0; write(0, 5, 7, 57) = 1; write(0, 4, 7, 47) = 2",
            "write(0, 5, 0, 50) = 3; commit(0) = 1; run(0, 100) = 6; begin(5) = 1; read(1, 5, 7) = 57; read(1, 4, 7) = 47",
            "read(1, 5, 0) = 50; read(1, 0, 7) = 0; read(1, 4, 0) = 0; commit(1) = 2; run(1, 100) = 5; check() = NONE");
        s.test("NONE.", "no TRANSACTIONS, none that is COMMITTED, none with OBJECTS",
            "check() = NONE; begin(5) = 0; check() = NONE; drop(0) = 8; check() = NONE; begin(5) = 1; commit(1) = 7",
            "check() = NONE");
        s.test("NONE.", "asked twice, it answers the same",
            HALF_WRITTEN, "step(0) = 7; check() = NONE; check() = NONE; read(1, 0, 0) = 7; commit(1) = 2; step(1) = 7",
            "check() = NONE; check() = NONE");
    }

    private void unlike() {
        s.in("Promise 19");
        String two = "region(0, 1, NONE) = 0; region(2, 3, 4) = 1; begin(5) = 0;";
        s.test("The first REGION, not LOST,", "the second, then the first of two",
            two, "write(0, 1, 0, 5) = 1; write(0, 0, 0, 5) = 2; commit(0) = 1; run(0, 5) = 5; unlike() = NONE; step(0) = 4",
            "unlike() = 1; step(0) = 5; unlike() = 0; run(0, 3) = 3; about(0, 0) = 7; unlike() = NONE");
        s.test("The first REGION, not LOST,", "the last of six",
            Sentences.each(0, 4, "region(#, NONE, NONE) = #"), "region(0, 1, NONE) = 5; begin(5) = 0; write(0, 5, 7, 1) = 1",
            "commit(0) = 1; run(0, 3) = 3; unlike() = 5; step(0) = 7; unlike() = NONE");
        s.test("The first REGION, not LOST,", "a LOST one, whose COPIES were unlike",
            two, "write(0, 0, 0, 5) = 1; commit(0) = 1; run(0, 3) = 3; unlike() = 0; fail(0) = 5; fail(1) = 4; unlike() = 0",
            "configure() = 1; count(9) = 1; unlike() = NONE");
        String alike = "whose COPIES on MEMBERS are not alike in VALUES and VERSIONS;";
        s.test(alike, "VERSIONS alone",
            two, "write(0, 0, 0, 0) = 1; commit(0) = 1; run(0, 3) = 3; object(0, 0, 0, 0) = 0; object(0, 1, 0, 0) = 0",
            "unlike() = 0; step(0) = 7; unlike() = NONE");
        s.test(alike, "the last OBJECT, at the last of three COPIES",
            two, "write(0, 1, 7, 5) = 1; commit(0) = 1; run(0, 5) = 5; about(0, 0) = 5; object(1, 1, 7, 0) = 5",
            "object(1, 2, 7, 0) = 0; unlike() = 1; step(0) = 7; unlike() = NONE");
        s.test(alike, "the COPY of a GONE MEMBER counts",
            two, "write(0, 0, 0, 5) = 1; commit(0) = 1; fail(3) = 5; run(0, 3) = 3; fail(1) = 4; unlike() = 0; configure() = 1",
            "unlike() = NONE; count(9) = 0");
        s.test(alike, "the COPY of one that is no MEMBER does not",
            "region(0, 1, NONE) = 0; fail(1) = 5; configure() = 0; begin(5) = 0; write(0, 0, 0, 5) = 1; commit(0) = 1",
            "run(0, 100) = 2; unlike() = NONE");
        s.test(alike, "LOCKED OBJECTS and RECORDS do not",
            two, "write(0, 0, 0, 5) = 1; commit(0) = 1; run(0, 2) = 2; count(7) = 1; count(8) = 1; unlike() = NONE");
        s.test("NONE.", "no REGIONS, new ones, one with a single COPY",
            "unlike() = NONE; region(0, 1, 2) = 0; unlike() = NONE; region(3, NONE, NONE) = 1; begin(5) = 0",
            "write(0, 1, 0, 5) = 1; commit(0) = 1; run(0, 100) = 2; unlike() = NONE");
    }

    private void count() {
        s.in("Promise 20");
        s.test("0 REGIONS,", "0 and 6, LOST ones too",
            "count(0) = 0", Sentences.each(0, 5, "region(0, NONE, NONE) = #"), "count(0) = 6; fail(0) = 5; configure() = 0",
            "count(0) = 6");
        s.test("1 TRANSACTIONS,", "0 and 60, ended ones too",
            "count(1) = 0; begin(0) = 0; count(1) = 1; drop(0) = 8; count(1) = 1", Sentences.each(1, 59, "begin(0) = #"),
            "count(1) = 60");
        s.test("2 the CONFIGURATION,", "0 and up, not by what is refused",
            "count(2) = 0; configure() = STATE; count(2) = 0; fail(0) = 5; count(2) = 0; configure() = 0; count(2) = 1",
            "configure() = STATE; count(2) = 1; fail(1) = 4; fail(2) = 3; configure() = 0; count(2) = 2");
        s.test("3 MEMBERS,", "6 and 1",
            "count(3) = 6; fail(0) = 5; count(3) = 6; configure() = 0; count(3) = 5; fail(1) = 4; fail(2) = 3; fail(3) = 2",
            "fail(4) = 1; configure() = 0; count(3) = 1");
        s.test("4 MACHINES that are UP,", "6 and 0",
            "count(4) = 6; fail(0) = 5; count(4) = 5; configure() = 0; count(4) = 5; fail(1) = 4; fail(2) = 3; fail(3) = 2",
            "fail(4) = 1; fail(5) = 0; count(4) = 0");
        s.test("5 COMMITTED ones,", "0, 1, and those that the votes decide",
            "region(0, 1, NONE) = 0; begin(5) = 0; begin(5) = 1; begin(5) = 2; count(5) = 0; commit(0) = 7; count(5) = 1",
            "write(1, 0, 0, 1) = 1; commit(1) = 1; run(1, 3) = 3; about(1, 4) = 1; count(5) = 1; drop(2) = 8; count(5) = 1",
            "fail(5) = 5; configure() = 1; count(5) = 2");
        s.test("6 ABORTED ones,", "0, by drop(), by UNLOCKING, by a new CONFIGURATION",
            "region(0, 1, NONE) = 0; begin(5) = 0; begin(5) = 1; begin(5) = 2; begin(5) = 3; begin(5) = 4; count(6) = 0",
            "drop(0) = 8; count(6) = 1; write(1, 0, 0, 1) = 1; write(2, 0, 0, 2) = 1; commit(1) = 1; step(1) = 3; commit(2) = 1",
            "step(2) = 8; count(6) = 2; commit(4) = 7; fail(5) = 5; count(6) = 2; configure() = 1; about(3, 0) = 8",
            "about(1, 0) = 8; count(6) = 4; count(5) = 1");
        s.test("OUTSIDE.", "below 0 and above 9",
            "count(-1) = OUTSIDE; count(10) = OUTSIDE; count(NONE) = OUTSIDE; count(MIN) = OUTSIDE; count(MAX) = OUTSIDE",
            "count(9) = 0; count(0) = 0");
    }

    private void countOfWhatIsHeld() {
        String locked = "7 OBJECTS that are LOCKED (at PRIMARIES of REGIONS that are not LOST),";
        s.test(locked, "0 to 3, of several REGIONS and TRANSACTIONS",
            "region(0, 1, NONE) = 0; region(2, NONE, NONE) = 1; begin(5) = 0; begin(5) = 1; write(0, 0, 0, 1) = 1",
            "write(0, 1, 7, 1) = 2; write(1, 0, 7, 1) = 1; commit(0) = 1; commit(1) = 1; count(7) = 0; step(0) = 1",
            "count(7) = 1; step(0) = 3; count(7) = 2; step(1) = 3; count(7) = 3; run(0, 2) = 2; count(7) = 2; step(0) = 5",
            "count(7) = 1");
        s.test(locked, "a GONE PRIMARY's while it is a MEMBER, a LOST REGION's not",
            "region(0, NONE, NONE) = 0; region(2, NONE, NONE) = 1; begin(5) = 0; begin(5) = 1; write(0, 0, 0, 1) = 1",
            "write(1, 1, 0, 1) = 1; commit(0) = 1; step(0) = 4; commit(1) = 1; step(1) = 4; fail(0) = 5; count(7) = 2",
            "configure() = 1; count(9) = 1; count(7) = 1");
        String records = "8 RECORDS (in COPIES on MEMBERS),";
        s.test(records, "0 to 4, of several COPIES and TRANSACTIONS",
            "region(0, 1, 2) = 0; begin(5) = 0; begin(5) = 1; write(0, 0, 0, 1) = 1; write(1, 0, 1, 1) = 1; commit(0) = 1",
            "commit(1) = 1; step(0) = 3; count(8) = 0; step(0) = 3; count(8) = 1; step(0) = 4; count(8) = 2; run(1, 3) = 3",
            "count(8) = 4; run(0, 2) = 2; count(8) = 3; step(0) = 7; count(8) = 2");
        s.test(records, "a GONE MEMBER's, too, until it is none",
            "region(0, 1, 2) = 0; begin(5) = 0; write(0, 0, 0, 1) = 1; commit(0) = 1; run(0, 3) = 3; fail(1) = 5; count(8) = 2",
            "configure() = 1; count(8) = 0");
        s.test("9 REGIONS that are LOST.", "0, 1 and 4",
            Sentences.each(0, 5, "region(#, NONE, NONE) = #"), "count(9) = 0; fail(0) = 5; count(9) = 0; configure() = 0",
            "count(9) = 1; copy(5, 1) = 2; fail(2) = 4; fail(3) = 3; fail(4) = 2; fail(5) = 1; configure() = 0; count(9) = 4");
        s.test("9 REGIONS that are LOST.", "all of them",
            Sentences.each(0, 5, "region(0, 1, 2) = #"), "fail(0) = 5; fail(1) = 4; configure() = 0; count(9) = 0; fail(2) = 3",
            "configure() = 0; count(9) = 6; unlike() = NONE; count(7) = 0; count(8) = 0");
    }
}
