/** Terms 3: a new configuration, who is recovered, and what the votes decide. */
final class VoteEdges {
    /** Acts: two LOCKED (then BACKING), two RECORDS (then WRITING), two written (then CLEANING), two cleaned. */
    private static final String TWO = "region(0, 1, NONE) = 0; region(2, 3, NONE) = 1; begin(4) = 0;"
        + "write(0, 0, 0, 5) = 1; write(0, 1, 0, 6) = 2; commit(0) = 1";
    /** Acts: two LOCKED (then WRITING), two written. */
    private static final String SINGLE = "region(0, NONE, NONE) = 0; region(2, NONE, NONE) = 1; begin(4) = 0;"
        + "write(0, 0, 0, 5) = 1; write(0, 1, 0, 6) = 2; commit(0) = 1";
    /** Acts: one LOCKED (then BACKING), RECORDS at 1 and 2 (then WRITING), one written (then CLEANING), two cleaned. */
    private static final String THREE = "region(0, 1, 2) = 0; begin(4) = 0; write(0, 0, 0, 5) = 1; commit(0) = 1";
    /** Transaction n is in phase n, with coordinator 5; 6 writes in region 1, the others that write in region 0. */
    private static final String ONE_OF_EACH_PHASE =
        "region(0, 1, NONE) = 0; region(2, NONE, NONE) = 1;" + Sentences.each(0, 8, "begin(5) = #")
        + "write(0, 0, 0, 1) = 1; write(1, 0, 1, 1) = 1; commit(1) = 1; read(2, 0, 2) = 0; commit(2) = 2;"
        + "write(6, 1, 0, 1) = 1; read(6, 0, 3) = 0; write(3, 0, 3, 1) = 1; commit(3) = 1; step(3) = 3;"
        + "write(4, 0, 4, 1) = 1; commit(4) = 1; run(4, 2) = 2; write(5, 0, 5, 1) = 1; commit(5) = 1; run(5, 3) = 3;"
        + "commit(6) = 1; run(6, 2) = 2; write(7, 0, 7, 1) = 1; commit(7) = 1; run(7, 100) = 4; drop(8) = 8;"
        + Sentences.each(0, 8, "about(#, 0) = #");

    private final Sentences s;

    VoteEdges(Sentences sentences) {
        s = sentences;
    }

    void play() {
        s.in("Terms 3");
        members();
        whoIsRecovered();
        whoIsNot();
        three();
        two();
        one();
        none();
        decisions();
        whatIsSpread();
        whatIsLetGo();
    }

    private void members() {
        String words = "A NEW CONFIGURATION has the MACHINES as MEMBERS that are UP; its number is one more.";
        s.test(words, "two GONE at once are one CONFIGURATION",
            "fail(1) = 5; fail(4) = 4; configure() = 0; count(2) = 1; count(3) = 4; machine(0, 1) = 1; machine(1, 1) = 0",
            "machine(4, 1) = 0; machine(5, 1) = 1");
        s.test(words, "five, one behind the other, down to one MEMBER",
            "fail(0) = 5; configure() = 0; fail(1) = 4; configure() = 0; fail(2) = 3; configure() = 0; fail(3) = 2",
            "configure() = 0; fail(4) = 1; configure() = 0; count(2) = 5; count(3) = 1; machine(5, 1) = 1");
        s.test(words, "five at once",
            "fail(0) = 5; fail(1) = 4; fail(2) = 3; fail(3) = 2; fail(4) = 1; configure() = 0; count(2) = 1; count(3) = 1");
    }

    private void whoIsRecovered() {
        s.test("Then, by number, each TRANSACTION that is not OPEN, COMMITTED, ABORTED,", "one of each PHASE, the COORDINATOR is no MEMBER",
            ONE_OF_EACH_PHASE, "fail(5) = 5; configure() = 6; about(0, 0) = 8; about(1, 0) = 8; about(2, 0) = 8",
            "about(3, 0) = 8; about(4, 0) = 7; about(5, 0) = 7; about(6, 0) = 8; about(7, 0) = 7; about(8, 0) = 8; count(7) = 0",
            "count(8) = 0; unlike() = NONE");
        s.test("Then, by number, each TRANSACTION that is not OPEN, COMMITTED, ABORTED,", "one of each PHASE, a BACKUP is no MEMBER",
            ONE_OF_EACH_PHASE, "fail(1) = 5; configure() = 4; about(0, 0) = 0; about(1, 0) = 8; about(2, 0) = 2",
            "about(3, 0) = 8; about(4, 0) = 8; about(5, 0) = 7; about(6, 0) = 6; about(7, 0) = 7; about(8, 0) = 8");
        s.test("Then, by number, each TRANSACTION that is not OPEN, COMMITTED, ABORTED,", "once only",
            TWO, "step(0) = 1; fail(4) = 5; configure() = 1; about(0, 0) = 8; fail(5) = 4; configure() = 0; count(6) = 1");
        String coordinator = "and whose COORDINATOR is no MEMBER,";
        s.test(coordinator, "though all COPIES that it writes are there",
            TWO, "step(0) = 1; fail(4) = 5; configure() = 1; about(0, 0) = 8; count(7) = 0");
        s.test(coordinator, "one that only reads",
            "region(0, 1, NONE) = 0; begin(4) = 0; read(0, 0, 0) = 0; commit(0) = 2; fail(4) = 5; configure() = 1",
            "about(0, 0) = 8; about(0, 4) = 0");
        s.test(coordinator, "a COORDINATOR that is GONE WAITS until then",
            TWO, "step(0) = 1; fail(4) = 5; step(0) = WAITS; about(0, 0) = 1; count(7) = 1");
        String copies = "or that writes an OBJECT of a REGION with a COPY on a MACHINE that was a MEMBER and is none any more, is RECOVERED;";
        s.test(copies, "the PRIMARY's", TWO, "step(0) = 1; fail(0) = 5; configure() = 1; about(0, 0) = 8");
        s.test(copies, "the last BACKUP's, of the last REGION",
            TWO, "step(0) = 1; fail(3) = 5; configure() = 1; about(0, 0) = 8; count(7) = 0");
        s.test(copies, "ahead of its first ACT", TWO, "fail(3) = 5; configure() = 1; about(0, 0) = 8");
        s.test(copies, "a COPY that came by copy()",
            "region(0, NONE, NONE) = 0; copy(0, 1) = 2; begin(4) = 0; write(0, 0, 0, 5) = 1; commit(0) = 1; fail(1) = 5",
            "configure() = 1; about(0, 0) = 8");
        s.test(copies, "of two REGIONS the one that is written",
            "region(0, 1, NONE) = 0; region(2, 3, NONE) = 1; begin(4) = 0; read(0, 1, 0) = 0; write(0, 0, 0, 5) = 1",
            "commit(0) = 1; fail(3) = 5; configure() = 0; about(0, 0) = 1; fail(1) = 4; configure() = 1; about(0, 0) = 8");
    }

    private void whoIsNot() {
        String copies = "or that writes an OBJECT of a REGION with a COPY on a MACHINE that was a MEMBER and is none any more, is RECOVERED;";
        s.test(copies, "one that left in an earlier CONFIGURATION is no MEMBER that was one",
            "region(0, 1, NONE) = 0; fail(1) = 5; configure() = 0; begin(4) = 0; write(0, 0, 0, 5) = 1; commit(0) = 1",
            "step(0) = 4; fail(2) = 4; configure() = 0; about(0, 0) = 4; step(0) = 7");
        s.test(copies, "a MACHINE that has no COPY of these",
            TWO, "run(0, 3) = 3; fail(5) = 5; configure() = 0; about(0, 0) = 3; object(0, 0, 0, 2) = 0; count(8) = 1",
            "run(0, 100) = 5; about(0, 0) = 7");
        String open = "an OPEN one whose COORDINATOR is no MEMBER is ABORTED;";
        s.test(open, "with what it has told, not counted, without a PLACE",
            "region(0, 1, NONE) = 0; begin(4) = 0; write(0, 0, 0, 5) = 1; fail(4) = 5; about(0, 0) = 0; configure() = 0",
            "about(0, 0) = 8; about(0, 4) = 0; about(0, 5) = 0; about(0, 2) = 1; item(0, 0, 4) = 5; count(6) = 1",
            "object(0, 0, 0, 1) = 0");
        s.test(open, "one without OBJECTS",
            "begin(4) = 0; begin(3) = 1; fail(4) = 5; configure() = 0; about(0, 0) = 8; about(1, 0) = 0; count(6) = 1");
        String others = "others go on.";
        s.test(others, "an OPEN one, whose OBJECTS have another PRIMARY now",
            "region(0, 1, NONE) = 0; begin(4) = 0; write(0, 0, 0, 5) = 1; fail(0) = 5; configure() = 0; about(0, 0) = 0",
            "read(0, 0, 0) = 5; commit(0) = 1; step(0) = 4; step(0) = 7; object(0, 0, 0, 0) = 5");
        s.test(others, "an OPEN one, whose REGION is LOST",
            "region(0, NONE, NONE) = 0; begin(4) = 0; write(0, 0, 0, 5) = 1; fail(0) = 5; configure() = 0; about(0, 0) = 0",
            "read(0, 0, 0) = LOST; drop(0) = 8");
        s.test(others, "one that LOOKS at another PRIMARY now",
            "region(0, 1, NONE) = 0; begin(4) = 0; read(0, 0, 0) = 0; commit(0) = 2; fail(0) = 5; configure() = 0",
            "about(0, 0) = 2; step(0) = 7");
        s.test(others, "COMMITTED and ABORTED ones stay as they are",
            "region(0, 1, NONE) = 0; begin(4) = 0; begin(4) = 1; write(0, 0, 0, 5) = 1; commit(0) = 1; run(0, 100) = 4",
            "drop(1) = 8; fail(4) = 5; fail(0) = 4; configure() = 0; about(0, 0) = 7; about(1, 0) = 8; about(0, 4) = 1",
            "about(1, 4) = 0");
        s.test(others, "with their LOCKS, RECORDS and next ACT",
            TWO, "begin(5) = 1; write(1, 0, 1, 7) = 1; write(1, 0, 2, 8) = 2; commit(1) = 1; run(1, 3) = 3; fail(4) = 5",
            "configure() = 1; about(1, 0) = 3; object(0, 0, 1, 2) = 1; object(0, 1, 1, 3) = 1; object(0, 1, 2, 3) = 0",
            "step(1) = 4; object(0, 1, 2, 3) = 1; run(1, 100) = 4; about(1, 0) = 7");
    }

    private void three() {
        String words = "3: at a COPY on a MEMBER WRITING or CLEANING has done one of its OBJECTS;";
        s.test(words, "WRITING, with the first ACT; the other REGION votes 1",
            SINGLE, "run(0, 3) = 3; about(0, 0) = 4; fail(4) = 5; configure() = 1; about(0, 0) = 7; object(1, 0, 0, 0) = 6",
            "object(1, 0, 0, 1) = 1");
        s.test(words, "WRITING, one ACT too few",
            SINGLE, "run(0, 2) = 2; about(0, 0) = 4; fail(4) = 5; configure() = 1; about(0, 0) = 8; object(0, 0, 0, 1) = 0",
            "object(1, 0, 0, 1) = 0");
        s.test(words, "WRITING, one of two OBJECTS of one REGION",
            "region(0, NONE, NONE) = 0; begin(4) = 0; write(0, 0, 0, 5) = 1; write(0, 0, 1, 6) = 2; commit(0) = 1",
            "run(0, 3) = 3; about(0, 0) = 4; fail(4) = 5; configure() = 1; about(0, 0) = 7; object(0, 0, 0, 0) = 5",
            "object(0, 0, 1, 0) = 6");
        s.test(words, "WRITING, at a MACHINE that is no MEMBER any more",
            SINGLE, "run(0, 3) = 3; fail(0) = 5; configure() = 1; about(0, 0) = 8; object(1, 0, 0, 0) = 0",
            "object(1, 0, 0, 1) = 0; object(1, 0, 0, 2) = NONE");
        s.test(words, "CLEANING, at a BACKUP that alone is left",
            TWO, "run(0, 7) = 7; about(0, 0) = 5; fail(0) = 5; fail(2) = 4; fail(3) = 3; configure() = 1; about(0, 0) = 7",
            "object(0, 0, 0, 0) = 5; object(0, 0, 0, 1) = 1");
        s.test(words, "CLEANING, where the VERSION was above already",
            "region(0, 1, 2) = 0; begin(4) = 0; begin(4) = 1; write(0, 0, 0, 5) = 1; commit(0) = 1; run(0, 4) = 4",
            "about(0, 0) = 5; write(1, 0, 0, 6) = 1; commit(1) = 1; run(1, 100) = 6; step(0) = 5; fail(0) = 5; fail(2) = 4",
            "configure() = 1; about(0, 0) = 7; object(0, 0, 0, 0) = 6; object(0, 0, 0, 1) = 2");
    }

    private void two() {
        String words = "else 2: a COPY on a MEMBER has a RECORD of it;";
        s.test(words, "the PRIMARY is gone, the BACKUP has it",
            THREE, "run(0, 2) = 2; fail(0) = 5; configure() = 1; about(0, 0) = 7; copyAt(0, 0) = 1; object(0, 0, 0, 0) = 5",
            "object(0, 1, 0, 0) = 5");
        s.test(words, "a RECORD at a MACHINE that is no MEMBER any more",
            THREE, "run(0, 2) = 2; fail(1) = 5; configure() = 1; about(0, 0) = 8; object(0, 0, 0, 1) = 0");
        s.test(words, "the second BACKUP alone is left with it",
            THREE, "run(0, 3) = 3; about(0, 0) = 4; fail(0) = 5; fail(1) = 4; configure() = 1; about(0, 0) = 7",
            "copyAt(0, 0) = 2; object(0, 0, 0, 0) = 5");
        s.test(words, "the second BACKUP alone is left, without it",
            THREE, "run(0, 2) = 2; fail(0) = 5; fail(1) = 4; configure() = 1; about(0, 0) = 8; object(0, 0, 0, 1) = 0");
        s.test(words, "of one of its two OBJECTS there",
            "region(0, 1, NONE) = 0; begin(4) = 0; write(0, 0, 0, 5) = 1; write(0, 0, 1, 6) = 2; commit(0) = 1; run(0, 3) = 3",
            "object(0, 1, 1, 3) = 0; fail(0) = 5; configure() = 1; about(0, 0) = 7; object(0, 0, 1, 0) = 6");
        s.test(words, "a RECORD of another TRANSACTION is none of it",
            "region(0, 1, NONE) = 0; begin(4) = 0; begin(5) = 1; write(0, 0, 0, 5) = 1; commit(0) = 1; run(0, 3) = 3",
            "write(1, 0, 0, 6) = 1; commit(1) = 1; step(1) = 3; object(0, 1, 0, 3) = 1; fail(0) = 5; configure() = 2",
            "about(0, 0) = 7; about(1, 0) = 8; object(0, 0, 0, 0) = 5; object(0, 0, 0, 1) = 1");
    }

    private void one() {
        String same = "else 1: its PRIMARY is the same as before,";
        s.test(same, "its BACKUP is gone",
            TWO, "run(0, 3) = 3; fail(3) = 5; configure() = 1; about(0, 0) = 7; object(1, 0, 0, 0) = 6");
        s.test(same, "its PRIMARY is gone",
            TWO, "run(0, 3) = 3; fail(2) = 5; configure() = 1; about(0, 0) = 8; object(0, 0, 0, 1) = 0; object(1, 0, 0, 1) = 0");
        s.test(same, "it was the second COPY before, too",
            "region(0, 1, NONE) = 0; region(5, 2, 3) = 1; fail(5) = 5; configure() = 0; begin(4) = 0; write(0, 0, 0, 5) = 1",
            "write(0, 1, 0, 6) = 2; commit(0) = 1; run(0, 3) = 3; fail(4) = 4; configure() = 1; about(0, 0) = 7",
            "object(1, 0, 0, 0) = 6");
        s.test(same, "it has no BACKUP at all",
            "region(0, 1, NONE) = 0; region(2, NONE, NONE) = 1; begin(4) = 0; write(0, 0, 0, 5) = 1; write(0, 1, 0, 6) = 2",
            "commit(0) = 1; run(0, 3) = 3; fail(4) = 5; configure() = 1; about(0, 0) = 7; object(1, 0, 0, 0) = 6");
        String locked = "and has all its OBJECTS (that it writes) LOCKED by it;";
        s.test(locked, "all of them, and no RECORD: that alone is not enough",
            TWO, "run(0, 2) = 2; about(0, 0) = 3; fail(4) = 5; configure() = 1; about(0, 0) = 8; about(0, 5) = 1");
        s.test(locked, "one of two", TWO, "step(0) = 1; fail(4) = 5; configure() = 1; about(0, 0) = 8; about(0, 5) = 0");
        s.test(locked, "what it only reads there is not LOCKED, and need not be",
            "region(0, 1, NONE) = 0; region(2, 3, NONE) = 1; begin(4) = 0; write(0, 0, 0, 5) = 1; write(0, 1, 0, 6) = 2",
            "read(0, 1, 1) = 0; commit(0) = 1; run(0, 4) = 4; about(0, 0) = 3; count(8) = 1; fail(4) = 5; configure() = 1",
            "about(0, 0) = 7; object(1, 0, 0, 0) = 6; object(1, 0, 1, 1) = 0");
    }

    private void none() {
        s.test("else 0.", "nothing is LOCKED yet", TWO, "fail(4) = 5; configure() = 1; about(0, 0) = 8");
        s.test("else 0.", "UNLOCKING",
            "region(0, 1, NONE) = 0; begin(4) = 0; begin(5) = 1; write(0, 0, 0, 5) = 1; read(0, 0, 1) = 0",
            "write(1, 0, 1, 6) = 1; commit(1) = 1; step(1) = 3; commit(0) = 1; step(0) = 2; step(0) = 6; fail(4) = 5",
            "configure() = 1; about(0, 0) = 8; object(0, 0, 0, 2) = NONE; object(0, 0, 1, 2) = 1; about(1, 0) = 3");
        s.test("else 0.", "the PRIMARY is another one, which has no RECORD yet",
            THREE, "step(0) = 3; fail(0) = 5; configure() = 1; about(0, 0) = 8; object(0, 0, 0, 2) = NONE");
        String regions = "VOTES of REGIONS that it writes and that are not LOST:";
        s.test(regions, "one that is LOST does not vote 0",
            TWO, "run(0, 3) = 3; fail(2) = 5; fail(3) = 4; configure() = 1; count(9) = 1; about(0, 0) = 7",
            "object(0, 0, 0, 0) = 5");
        s.test(regions, "one that is LOST does not vote 2 or 3",
            SINGLE, "run(0, 3) = 3; fail(0) = 5; configure() = 1; count(9) = 1; about(0, 0) = 8");
        s.test(regions, "all are LOST: no votes",
            TWO, "run(0, 6) = 6; about(0, 0) = 5; fail(0) = 5; fail(1) = 4; fail(2) = 3; fail(3) = 2; configure() = 1",
            "count(9) = 2; about(0, 0) = 8");
        s.test(regions, "one that it only reads does not vote, though its PRIMARY is another one",
            "region(0, 1, NONE) = 0; region(2, 3, NONE) = 1; begin(4) = 0; write(0, 0, 0, 5) = 1; read(0, 1, 0) = 0",
            "commit(0) = 1; run(0, 3) = 3; about(0, 0) = 4; fail(2) = 5; fail(4) = 4; configure() = 1; about(0, 0) = 7");
        s.test(regions, "one that it has nothing of does not vote",
            "region(0, 1, NONE) = 0; region(2, 3, NONE) = 1; begin(4) = 0; write(0, 0, 0, 5) = 1; commit(0) = 1; run(0, 2) = 2",
            "fail(2) = 5; fail(4) = 4; configure() = 1; about(0, 0) = 7");
    }

    private void decisions() {
        s.test("If one is 3,", "3 and 2",
            TWO, "run(0, 5) = 5; fail(4) = 5; configure() = 1; about(0, 0) = 7; unlike() = NONE; object(1, 1, 0, 0) = 6");
        s.test("If one is 3,", "3 and 1", SINGLE, "run(0, 3) = 3; fail(4) = 5; configure() = 1; about(0, 0) = 7");
        s.test("If one is 3,", "3 and 3", TWO, "run(0, 6) = 6; fail(4) = 5; configure() = 1; about(0, 0) = 7; unlike() = NONE");
        String two = "or one is 2 and none 0:";
        s.test(two, "2 and 2", TWO, "run(0, 4) = 4; fail(0) = 5; fail(2) = 4; configure() = 1; about(0, 0) = 7");
        s.test(two, "2 and 1", TWO, "run(0, 3) = 3; fail(4) = 5; configure() = 1; about(0, 0) = 7");
        s.test(two, "2 and 0", TWO, "run(0, 3) = 3; fail(2) = 5; configure() = 1; about(0, 0) = 8");
        s.test(two, "0 and 2, by the order of REGIONS",
            "region(2, 3, NONE) = 0; region(0, 1, NONE) = 1; begin(4) = 0; write(0, 1, 0, 5) = 1; write(0, 0, 0, 6) = 2",
            "commit(0) = 1; run(0, 3) = 3; machine(1, 3) = 1; fail(2) = 5; configure() = 1; about(0, 0) = 8");
        s.test(two, "2, 1 and 0",
            "region(0, 1, NONE) = 0; region(2, NONE, NONE) = 1; region(3, 5, NONE) = 2; begin(4) = 0; write(0, 0, 0, 5) = 1",
            "write(0, 1, 0, 6) = 2; write(0, 2, 0, 7) = 3; commit(0) = 1; run(0, 4) = 4; about(0, 0) = 3; fail(3) = 5",
            "configure() = 1; about(0, 0) = 8; count(7) = 0; count(8) = 0");
        s.test("Else it is ABORTED.", "1 and 1",
            TWO, "run(0, 2) = 2; fail(4) = 5; configure() = 1; about(0, 0) = 8; about(0, 4) = 0; count(6) = 1");
        s.test("Else it is ABORTED.", "1 and 0", TWO, "run(0, 2) = 2; fail(2) = 5; configure() = 1; about(0, 0) = 8");
        s.test("Else it is ABORTED.", "0 and 0",
            TWO, "fail(0) = 5; fail(2) = 4; configure() = 1; about(0, 0) = 8; unlike() = NONE");
        s.test("Else it is ABORTED.", "a single 1", THREE, "step(0) = 3; fail(4) = 5; configure() = 1; about(0, 0) = 8");
        s.test("Else it is ABORTED.", "no VALUE and no VERSION is changed",
            TWO, "run(0, 3) = 3; fail(2) = 5; configure() = 1; object(0, 0, 0, 0) = 0; object(0, 1, 0, 1) = 0",
            "object(1, 0, 0, 1) = 0; object(1, 0, 0, 0) = 0");
    }

    private void whatIsSpread() {
        String words = "each COPY on a MEMBER of each REGION that is not LOST gets that VALUE and VERSION of each OBJECT that it writes,";
        s.test(words, "three COPIES, of which one had a RECORD",
            THREE, "run(0, 2) = 2; fail(4) = 5; configure() = 1; object(0, 0, 0, 0) = 5; object(0, 1, 0, 0) = 5",
            "object(0, 2, 0, 0) = 5; object(0, 2, 0, 1) = 1; unlike() = NONE");
        s.test(words, "the REGION that voted 1, too",
            TWO, "run(0, 3) = 3; fail(4) = 5; configure() = 1; object(1, 0, 0, 0) = 6; object(1, 1, 0, 0) = 6",
            "object(1, 0, 0, 1) = 1; object(1, 1, 0, 1) = 1");
        s.test(words, "each of eight OBJECTS",
            "region(0, 1, NONE) = 0; begin(4) = 0; write(0, 0, 0, 1) = 1; write(0, 0, 1, 2) = 2; write(0, 0, 2, 3) = 3",
            "write(0, 0, 3, 4) = 4; write(0, 0, 4, 5) = 5; write(0, 0, 5, 6) = 6; write(0, 0, 6, 7) = 7; write(0, 0, 7, 8) = 8",
            "commit(0) = 1; run(0, 9) = 9; fail(0) = 5; configure() = 1; about(0, 0) = 7; object(0, 0, 0, 0) = 1",
            "object(0, 0, 7, 0) = 8; object(0, 0, 7, 1) = 1");
        s.test(words, "what it only reads stays",
            "region(0, 1, NONE) = 0; begin(4) = 0; read(0, 0, 1) = 0; write(0, 0, 0, 5) = 1; commit(0) = 1; run(0, 3) = 3",
            "fail(4) = 5; configure() = 1; about(0, 0) = 7; object(0, 0, 1, 0) = 0; object(0, 0, 1, 1) = 0");
        String below = "if its own VERSION is below that:";
        s.test(below, "the one that came behind it is there already",
            "region(0, 1, NONE) = 0; begin(4) = 0; begin(5) = 1; write(0, 0, 0, 5) = 1; commit(0) = 1; run(0, 3) = 3",
            "write(1, 0, 0, 6) = 1; commit(1) = 1; run(1, 100) = 4; about(1, 0) = 7; fail(4) = 5; configure() = 1",
            "about(0, 0) = 7; object(0, 0, 0, 0) = 6; object(0, 0, 0, 1) = 2; object(0, 1, 0, 0) = 6; object(0, 1, 0, 1) = 2");
        s.test(below, "the PRIMARY has a later one, the BACKUP has none yet",
            "region(0, 1, NONE) = 0; begin(4) = 0; begin(5) = 1; write(0, 0, 0, 5) = 1; commit(0) = 1; run(0, 3) = 3",
            "write(1, 0, 0, 6) = 1; commit(1) = 1; run(1, 3) = 3; about(1, 0) = 5; fail(4) = 5; configure() = 1",
            "object(0, 0, 0, 0) = 6; object(0, 0, 0, 1) = 2; object(0, 1, 0, 0) = 5; object(0, 1, 0, 1) = 1; unlike() = 0",
            "step(1) = 7; unlike() = NONE");
        s.test(below, "both RECOVERED, the later one has the lower number",
            "region(0, 1, 2) = 0; begin(4) = 0; begin(4) = 1; write(1, 0, 0, 5) = 1; commit(1) = 1; run(1, 4) = 4",
            "write(0, 0, 0, 6) = 1; commit(0) = 1; run(0, 2) = 2; fail(0) = 5; configure() = 2; object(0, 0, 0, 0) = 6",
            "object(0, 0, 0, 1) = 2; object(0, 1, 0, 0) = 6; object(0, 1, 0, 1) = 2");
        s.test("it is COMMITTED, and DECIDED.", "which it was not before",
            THREE, "run(0, 2) = 2; about(0, 4) = 0; fail(4) = 5; configure() = 1; about(0, 0) = 7; about(0, 4) = 1",
            "count(5) = 1; about(0, 5) = 1");
    }

    private void whatIsLetGo() {
        String records = "Its RECORDS are gone,";
        s.test(records, "of one that is COMMITTED",
            THREE, "run(0, 3) = 3; count(8) = 2; fail(4) = 5; configure() = 1; about(0, 0) = 7; count(8) = 0; machine(1, 3) = 0",
            "machine(2, 3) = 0; object(0, 1, 0, 3) = 0");
        s.test(records, "of one that is ABORTED",
            TWO, "run(0, 3) = 3; count(8) = 1; fail(2) = 5; configure() = 1; about(0, 0) = 8; count(8) = 0; machine(1, 3) = 0",
            "object(0, 1, 0, 3) = 0");
        s.test(records, "on a MACHINE that is no MEMBER any more, too",
            TWO, "run(0, 3) = 3; machine(1, 3) = 1; fail(1) = 5; machine(1, 3) = 1; configure() = 1; machine(1, 3) = 0");
        s.test(records, "those of another one stay",
            "region(0, 1, NONE) = 0; begin(4) = 0; begin(5) = 1; write(0, 0, 0, 5) = 1; commit(0) = 1; run(0, 3) = 3",
            "write(1, 0, 0, 6) = 1; commit(1) = 1; run(1, 2) = 2; object(0, 1, 0, 3) = 2; fail(4) = 5; configure() = 1",
            "object(0, 1, 0, 3) = 1; run(1, 100) = 2; about(1, 0) = 7");
        String locks = "and none of its OBJECTS is LOCKED by it any more.";
        s.test(locks, "of one that is COMMITTED",
            TWO, "run(0, 3) = 3; count(7) = 2; fail(4) = 5; configure() = 1; about(0, 0) = 7; count(7) = 0; begin(5) = 1",
            "read(1, 0, 0) = 5; read(1, 1, 0) = 6");
        s.test(locks, "of one that is ABORTED",
            TWO, "run(0, 2) = 2; count(7) = 2; fail(4) = 5; configure() = 1; about(0, 0) = 8; count(7) = 0; begin(5) = 1",
            "write(1, 0, 0, 7) = 1; commit(1) = 1; step(1) = 3");
        s.test(locks, "at a PRIMARY that is a new one",
            THREE, "run(0, 3) = 3; fail(0) = 5; configure() = 1; object(0, 0, 0, 2) = NONE; begin(5) = 1; write(1, 0, 0, 7) = 1",
            "commit(1) = 1; run(1, 100) = 4; about(1, 0) = 7");
        s.test(locks, "those of another one stay",
            "region(0, 1, NONE) = 0; begin(4) = 0; begin(5) = 1; write(0, 0, 0, 5) = 1; commit(0) = 1; run(0, 3) = 3",
            "write(1, 0, 0, 6) = 1; commit(1) = 1; step(1) = 3; fail(4) = 5; configure() = 1; about(0, 0) = 7",
            "object(0, 0, 0, 2) = 1");
    }
}
