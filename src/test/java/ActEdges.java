/** Terms 2: transactions, their phases and acts; Terms 4: their places. */
final class ActEdges {
    private static final String[] PHASES = {"LOCKING", "LOOKING", "BACKING", "WRITING", "CLEANING"};

    private final Sentences s;

    ActEdges(Sentences sentences) {
        s = sentences;
    }

    void play() {
        s.in("Terms 2");
        transactions();
        kept();
        phases();
        locking();
        looking();
        backing();
        writing();
        cleaning();
        unlocking();
        passedOver();
        waits();
        lost();
        s.in("Terms 4");
        places();
    }

    private void transactions() {
        String words = "TRANSACTIONS 0 .. 59, as they come, have a COORDINATOR (a MACHINE),";
        s.test(words, "the first and the last",
            "about(0, 1) = UNKNOWN; begin(5) = 0; about(0, 1) = 5; about(1, 1) = UNKNOWN", Sentences.each(1, 59, "begin(0) = #"),
            "begin(0) = FULL; about(59, 1) = 0; about(0, 1) = 5; about(60, 1) = UNKNOWN; about(-1, 1) = UNKNOWN");
        s.test(words, "ended ones keep their numbers",
            "begin(5) = 0; drop(0) = 8; begin(5) = 1; commit(1) = 7; begin(4) = 2; about(0, 0) = 8; about(2, 1) = 4");
        String eight = "READS and WRITES (together 8 OBJECTS at most,";
        String regions = "region(0, 1, NONE) = 0; region(2, NONE, NONE) = 1; begin(5) = 0;";
        s.test(eight, "eight READS",
            regions, Sentences.each(0, 7, "read(0, 0, #) = 0"), "read(0, 1, 0) = FULL; write(0, 1, 0, 1) = FULL",
            "about(0, 2) = 8; about(0, 3) = 0");
        s.test(eight, "eight WRITES",
            regions, "write(0, 0, 0, 1) = 1; write(0, 0, 1, 1) = 2; write(0, 0, 2, 1) = 3; write(0, 0, 3, 1) = 4",
            "write(0, 0, 4, 1) = 5; write(0, 0, 5, 1) = 6; write(0, 0, 6, 1) = 7; write(0, 1, 7, 1) = 8",
            "write(0, 1, 0, 1) = FULL; read(0, 1, 0) = FULL; about(0, 2) = 8; about(0, 3) = 8");
        s.test(eight, "seven READS and a WRITE",
            regions, Sentences.each(0, 6, "read(0, 0, #) = 0"), "about(0, 2) = 7; write(0, 0, 7, 1) = 1; read(0, 1, 0) = FULL",
            "write(0, 1, 0, 1) = FULL; about(0, 2) = 8");
        s.test(eight, "another one still has room",
            regions, Sentences.each(0, 7, "read(0, 0, #) = 0"), "begin(5) = 1; read(0, 1, 0) = FULL; read(1, 1, 0) = 0");
        s.test("each once,", "read twice, written twice, read and written",
            regions, "read(0, 0, 0) = 0; read(0, 0, 0) = 0; about(0, 2) = 1; write(0, 0, 0, 1) = 1; write(0, 0, 0, 2) = 1",
            "read(0, 0, 0) = 2; about(0, 2) = 1; about(0, 3) = 1; write(0, 0, 1, 1) = 2; read(0, 0, 1) = 1; about(0, 2) = 2",
            "item(0, 2, 0) = UNKNOWN");
        s.test("each once,", "the same number in another REGION is another one",
            regions, "read(0, 0, 3) = 0; write(0, 1, 3, 4) = 1; about(0, 2) = 2; read(0, 0, 3) = 0");
        s.test("each once,", "when it has 8, each of them may be read and written again",
            regions, Sentences.each(0, 7, "read(0, 0, #) = 0"), "read(0, 0, 0) = 0; read(0, 0, 7) = 0; write(0, 0, 7, 3) = 1",
            "write(0, 0, 0, 4) = 2; about(0, 2) = 8");
        s.test("in the order in which they were told;", "neither by REGION nor by number",
            regions, "read(0, 1, 5) = 0; write(0, 0, 6, 1) = 1; read(0, 0, 2) = 0; write(0, 1, 0, 1) = 2; item(0, 0, 0) = 1",
            "item(0, 0, 1) = 5; item(0, 1, 0) = 0; item(0, 1, 1) = 6; item(0, 2, 0) = 0; item(0, 2, 1) = 2; item(0, 3, 0) = 1",
            "item(0, 3, 1) = 0");
        s.test("in the order in which they were told;", "one that is written later stays where it was read",
            regions, "read(0, 0, 4) = 0; write(0, 0, 3, 1) = 1; write(0, 0, 4, 1) = 2; item(0, 0, 1) = 4; item(0, 1, 1) = 3",
            "commit(0) = 1; step(0) = 1; object(0, 0, 4, 2) = 0; object(0, 0, 3, 2) = NONE");
    }

    private void kept() {
        String words = "one that is written was read, too: its VALUE and VERSION, as the PRIMARY had them then, are kept),";
        String twice = "region(0, 1, NONE) = 0; begin(5) = 0; write(0, 0, 0, 40) = 1; commit(0) = 1; run(0, 100) = 4; begin(5) = 1; begin(5) = 2;";
        s.test(words, "one that was never read",
            twice, "write(1, 0, 0, 50) = 1; item(1, 0, 2) = 40; item(1, 0, 3) = 1; item(1, 0, 4) = 50; about(1, 2) = 1");
        s.test(words, "then, not when it is written again or reads again",
            twice, "write(1, 0, 0, 50) = 1; write(2, 0, 0, 60) = 1; commit(2) = 1; run(2, 100) = 4; write(1, 0, 0, 51) = 1",
            "read(1, 0, 0) = 51; item(1, 0, 2) = 40; item(1, 0, 3) = 1; commit(1) = 1; step(1) = 8");
        s.test(words, "at the PRIMARY, which has it ahead of the BACKUP",
            twice, "write(1, 0, 0, 50) = 1; commit(1) = 1; run(1, 3) = 3; object(0, 1, 0, 0) = 40; write(2, 0, 0, 60) = 1",
            "item(2, 0, 2) = 50; item(2, 0, 3) = 2");
        s.test(words, "the PRIMARY of then, though it is another one now",
            "region(0, 1, NONE) = 0; begin(5) = 0; read(0, 0, 0) = 0; fail(0) = 5; configure() = 0; item(0, 0, 2) = 0",
            "write(0, 0, 0, 5) = 1; item(0, 0, 3) = 0; commit(0) = 1; run(0, 100) = 2; about(0, 0) = 7; object(0, 0, 0, 0) = 5",
            "object(0, 0, 0, 1) = 1");
    }

    private void phases() {
        String words = "and a PHASE: 0 OPEN, 1 LOCKING, 2 LOOKING, 3 BACKING, 4 WRITING, 5 CLEANING, 6 UNLOCKING, 7 COMMITTED, 8 ABORTED. An ACT of one is done by step():";
        s.test(words, "OPEN to COMMITTED, one ACT for each PHASE",
            "region(0, 1, NONE) = 0; begin(5) = 0; about(0, 0) = 0; read(0, 0, 1) = 0; write(0, 0, 0, 5) = 1; about(0, 0) = 0",
            "commit(0) = 1; about(0, 0) = 1; step(0) = 2; about(0, 0) = 2; step(0) = 3; about(0, 0) = 3; step(0) = 4",
            "about(0, 0) = 4; step(0) = 5; about(0, 0) = 5; step(0) = 7; about(0, 0) = 7");
        s.test(words, "OPEN to ABORTED by UNLOCKING",
            "region(0, 1, NONE) = 0; begin(5) = 0; begin(5) = 1; write(0, 0, 0, 5) = 1; write(1, 0, 1, 5) = 1",
            "write(1, 0, 0, 6) = 2; commit(0) = 1; step(0) = 3; commit(1) = 1; step(1) = 1; step(1) = 6; about(1, 0) = 6",
            "step(1) = 8; about(1, 0) = 8");
        s.test(words, "one step() is one ACT, and nothing goes on without it",
            "region(0, 1, NONE) = 0; begin(5) = 0; begin(5) = 1; write(0, 0, 0, 5) = 1; write(0, 0, 1, 5) = 2; commit(0) = 1",
            "count(7) = 0; step(0) = 1; count(7) = 1; commit(1) = 7; count(7) = 1; step(0) = 3; count(7) = 2; count(8) = 0",
            "step(0) = 3; count(8) = 1");
    }

    private void locking() {
        String words = "LOCKING: the next OBJECT that it writes: if it is LOCKED, or its VERSION is not the one kept, it is UNLOCKING from then on;";
        s.test(words, "LOCKED by another one",
            "region(0, NONE, NONE) = 0; begin(5) = 0; begin(5) = 1; write(0, 0, 0, 1) = 1; write(1, 0, 1, 1) = 1",
            "write(1, 0, 0, 1) = 2; write(1, 0, 2, 1) = 3; commit(0) = 1; commit(1) = 1; step(0) = 4; step(1) = 1; step(1) = 6",
            "object(0, 0, 0, 2) = 0; object(0, 0, 1, 2) = 1; object(0, 0, 2, 2) = NONE");
        s.test(words, "another VERSION with the same VALUE",
            "region(0, NONE, NONE) = 0; begin(5) = 0; begin(5) = 1; write(0, 0, 1, 1) = 1; write(0, 0, 0, 1) = 2",
            "write(1, 0, 0, 0) = 1; commit(1) = 1; run(1, 100) = 2; commit(0) = 1; step(0) = 1; step(0) = 6",
            "object(0, 0, 0, 2) = NONE; object(0, 0, 1, 2) = 0");
        s.test(words, "one that is only read is not LOCKED",
            "region(0, NONE, NONE) = 0; begin(5) = 0; read(0, 0, 0) = 0; write(0, 0, 1, 1) = 1; read(0, 0, 2) = 0",
            "commit(0) = 1; step(0) = 2; count(7) = 1; object(0, 0, 1, 2) = 0");
        s.test(words, "a VERSION that came and was the one kept by a later reader",
            "region(0, NONE, NONE) = 0; begin(5) = 0; begin(5) = 1; write(0, 0, 0, 1) = 1; commit(0) = 1; run(0, 100) = 2",
            "write(1, 0, 0, 2) = 1; commit(1) = 1; step(1) = 4");
        s.test("else it is LOCKED.", "by it, while others wait or give up",
            "region(0, NONE, NONE) = 0; begin(5) = 0; begin(5) = 1; begin(5) = 2; write(0, 0, 0, 1) = 1; write(1, 0, 0, 1) = 1",
            "commit(0) = 1; commit(1) = 1; step(0) = 4; object(0, 0, 0, 2) = 0; read(2, 0, 0) = WAITS; step(1) = 8",
            "object(0, 0, 0, 2) = 0");
        s.test("Behind the last one it is LOOKING.", "not ahead of the last of three",
            "region(0, NONE, NONE) = 0; begin(5) = 0; read(0, 0, 7) = 0; write(0, 0, 0, 1) = 1; write(0, 0, 1, 1) = 2",
            "write(0, 0, 2, 1) = 3; commit(0) = 1; step(0) = 1; step(0) = 1; step(0) = 2");
    }

    private void looking() {
        String words = "LOOKING: the next OBJECT that it reads and does not write: if it is LOCKED, or its VERSION is another one: UNLOCKING.";
        s.test(words, "LOCKED, while its VERSION is the one kept",
            "region(0, NONE, NONE) = 0; begin(5) = 0; begin(5) = 1; read(0, 0, 0) = 0; write(0, 0, 1, 1) = 1",
            "write(1, 0, 0, 1) = 1; commit(0) = 1; step(0) = 2; commit(1) = 1; step(1) = 4; object(0, 0, 0, 1) = 0; step(0) = 6",
            "object(0, 0, 1, 2) = 0");
        s.test(words, "another VERSION, not LOCKED, with the same VALUE",
            "region(0, NONE, NONE) = 0; begin(5) = 0; begin(5) = 1; read(0, 0, 0) = 0; write(0, 0, 1, 1) = 1",
            "write(1, 0, 0, 0) = 1; commit(0) = 1; step(0) = 2; commit(1) = 1; run(1, 100) = 2; object(0, 0, 0, 0) = 0",
            "object(0, 0, 0, 2) = NONE; step(0) = 6");
        s.test(words, "LOCKED and let go again with the same VERSION is fine",
            "region(0, NONE, NONE) = 0; begin(5) = 0; begin(5) = 1; begin(5) = 2; read(0, 0, 0) = 0; write(1, 0, 0, 1) = 1",
            "write(1, 0, 1, 1) = 2; write(2, 0, 1, 1) = 1; commit(2) = 1; step(2) = 4; commit(0) = 2; commit(1) = 1",
            "step(1) = 1; step(1) = 6; step(1) = 8; step(0) = 7");
        s.test(words, "what it writes is not looked at again, though it is LOCKED by itself",
            "region(0, NONE, NONE) = 0; begin(5) = 0; read(0, 0, 0) = 0; read(0, 0, 1) = 0; write(0, 0, 0, 1) = 1",
            "commit(0) = 1; step(0) = 2; step(0) = 4");
        s.test(words, "the second of two",
            "region(0, NONE, NONE) = 0; begin(5) = 0; begin(5) = 1; read(0, 0, 0) = 0; read(0, 0, 1) = 0; write(1, 0, 1, 1) = 1",
            "commit(0) = 2; step(0) = 2; commit(1) = 1; step(1) = 4; step(0) = 8");
        String behind = "Behind the last one it is BACKING (without WRITES: COMMITTED).";
        s.test(behind, "with WRITES",
            "region(0, 1, NONE) = 0; begin(5) = 0; read(0, 0, 0) = 0; read(0, 0, 1) = 0; write(0, 0, 2, 1) = 1; commit(0) = 1",
            "step(0) = 2; step(0) = 2; step(0) = 3");
        s.test(behind, "without WRITES",
            "region(0, 1, NONE) = 0; begin(5) = 0; read(0, 0, 0) = 0; read(0, 0, 1) = 0; commit(0) = 2; step(0) = 2",
            "step(0) = 7; about(0, 4) = 0; count(8) = 0");
    }

    private void backing() {
        String words = "BACKING: the next BACKUP (by OBJECTS that it writes, then by the order of COPIES) gets a RECORD of that OBJECT.";
        s.test(words, "two OBJECTS with two BACKUPS each, in the order of COPIES",
            "region(2, 4, 0) = 0; begin(5) = 0; write(0, 0, 6, 1) = 1; read(0, 0, 5) = 0; write(0, 0, 3, 1) = 2; commit(0) = 1",
            "run(0, 3) = 3; about(0, 0) = 3; count(8) = 0; step(0) = 3; object(0, 1, 6, 3) = 1; machine(4, 3) = 1",
            "machine(0, 3) = 0; step(0) = 3; object(0, 2, 6, 3) = 1; object(0, 1, 3, 3) = 0; step(0) = 3",
            "object(0, 1, 3, 3) = 1; object(0, 2, 3, 3) = 0; step(0) = 4; object(0, 2, 3, 3) = 1; count(8) = 4",
            "object(0, 1, 5, 3) = 0; object(0, 0, 6, 3) = 0");
        s.test(words, "a RECORD changes neither VALUE nor VERSION",
            "region(0, 1, NONE) = 0; begin(5) = 0; write(0, 0, 0, 1) = 1; commit(0) = 1; run(0, 2) = 2; object(0, 1, 0, 3) = 1",
            "object(0, 1, 0, 0) = 0; object(0, 1, 0, 1) = 0; unlike() = NONE");
        s.test(words, "none where a MACHINE is no MEMBER",
            "region(0, 1, 2) = 0; fail(1) = 5; configure() = 0; begin(5) = 0; write(0, 0, 0, 1) = 1; commit(0) = 1; step(0) = 3",
            "step(0) = 4; machine(1, 3) = 0; machine(2, 3) = 1");
        s.test(words, "of each OBJECT, though the PRIMARY is GONE, which is none",
            "region(0, 1, 2) = 0; begin(5) = 0; write(0, 0, 0, 1) = 1; write(0, 0, 1, 1) = 2; commit(0) = 1; run(0, 2) = 2",
            "fail(0) = 5; step(0) = 3; step(0) = 3; step(0) = 3; object(0, 1, 1, 3) = 1; step(0) = 4; object(0, 2, 1, 3) = 1",
            "machine(0, 3) = 0; step(0) = WAITS");
        s.test("Behind the last one it is WRITING.", "not DECIDED yet",
            "region(0, 1, NONE) = 0; begin(5) = 0; write(0, 0, 0, 1) = 1; commit(0) = 1; step(0) = 3; step(0) = 4",
            "about(0, 4) = 0; object(0, 0, 0, 0) = 0; object(0, 0, 0, 2) = 0");
    }

    private void writing() {
        String words = "WRITING: the next OBJECT that it writes: at the PRIMARY it has the new VALUE and the VERSION that is 1 more than the one kept, and is LOCKED no more.";
        s.test(words, "the first of two",
            "region(0, 1, NONE) = 0; begin(5) = 0; write(0, 0, 3, -10) = 1; write(0, 0, 2, 1000000) = 2; commit(0) = 1",
            "run(0, 4) = 4; about(0, 0) = 4; count(7) = 2; step(0) = 4; object(0, 0, 3, 0) = -10; object(0, 0, 3, 1) = 1",
            "object(0, 0, 3, 2) = NONE; object(0, 0, 2, 0) = 0; object(0, 0, 2, 1) = 0; object(0, 0, 2, 2) = 0",
            "object(0, 1, 3, 1) = 0");
        s.test(words, "VERSIONS 1, 2, 3, though the VALUE stays",
            "region(0, NONE, NONE) = 0; begin(5) = 0; write(0, 0, 0, 0) = 1; commit(0) = 1; run(0, 100) = 2",
            "object(0, 0, 0, 1) = 1; begin(5) = 1; write(1, 0, 0, 0) = 1; commit(1) = 1; run(1, 100) = 2",
            "object(0, 0, 0, 1) = 2; begin(5) = 2; write(2, 0, 0, 9) = 1; write(2, 0, 0, 0) = 1; commit(2) = 1; run(2, 100) = 2",
            "object(0, 0, 0, 1) = 3; object(0, 0, 0, 0) = 0");
        s.test("With the first one it is DECIDED.", "not ahead of it, and not with the last one",
            "region(0, NONE, NONE) = 0; begin(5) = 0; write(0, 0, 0, 1) = 1; write(0, 0, 1, 1) = 2; commit(0) = 1",
            "run(0, 2) = 2; about(0, 4) = 0; step(0) = 4; about(0, 4) = 1; step(0) = 7; about(0, 4) = 1");
        s.test("Behind the last one it is CLEANING.", "with all OBJECTS LOCKED no more",
            "region(0, 1, NONE) = 0; begin(5) = 0; write(0, 0, 0, 1) = 1; write(0, 0, 1, 1) = 2; commit(0) = 1; run(0, 5) = 5",
            "about(0, 0) = 4; step(0) = 5; count(7) = 0; count(8) = 2");
    }

    private void cleaning() {
        String words = "CLEANING: the next RECORD (as they were made): that COPY's OBJECT has that VALUE and VERSION, if its own VERSION is below that; the RECORD is gone.";
        s.test(words, "as they were made",
            "region(2, 4, 0) = 0; begin(5) = 0; write(0, 0, 6, 11) = 1; write(0, 0, 3, 12) = 2; commit(0) = 1; run(0, 8) = 8",
            "about(0, 0) = 5; step(0) = 5; object(0, 1, 6, 0) = 11; object(0, 1, 6, 1) = 1; object(0, 1, 6, 3) = 0",
            "object(0, 2, 6, 3) = 1; object(0, 2, 6, 0) = 0; step(0) = 5; object(0, 2, 6, 3) = 0; object(0, 1, 3, 3) = 1",
            "step(0) = 5; object(0, 1, 3, 0) = 12; object(0, 2, 3, 0) = 0; count(8) = 1; step(0) = 7; object(0, 2, 3, 0) = 12",
            "count(8) = 0");
        s.test(words, "its own VERSION is above that: the RECORD alone is gone",
            "region(0, 1, NONE) = 0; begin(5) = 0; begin(5) = 1; write(0, 0, 0, 11) = 1; commit(0) = 1; run(0, 3) = 3",
            "write(1, 0, 0, 22) = 1; commit(1) = 1; run(1, 100) = 4; object(0, 1, 0, 0) = 22; object(0, 1, 0, 1) = 2",
            "object(0, 1, 0, 3) = 1; step(0) = 7; object(0, 1, 0, 0) = 22; object(0, 1, 0, 1) = 2; object(0, 1, 0, 3) = 0");
        s.test(words, "its own VERSION is two below that",
            "region(0, 1, NONE) = 0; begin(5) = 0; begin(5) = 1; write(0, 0, 0, 11) = 1; commit(0) = 1; run(0, 3) = 3",
            "write(1, 0, 0, 22) = 1; commit(1) = 1; run(1, 3) = 3; object(0, 1, 0, 1) = 0; object(0, 1, 0, 3) = 2; step(1) = 7",
            "object(0, 1, 0, 1) = 2; object(0, 1, 0, 0) = 22");
        s.test("Behind the last one it is COMMITTED.", "and not ahead of it",
            "region(0, 1, 2) = 0; begin(5) = 0; write(0, 0, 0, 11) = 1; commit(0) = 1; run(0, 4) = 4; about(0, 0) = 5",
            "step(0) = 5; count(5) = 0; step(0) = 7; count(5) = 1; unlike() = NONE");
    }

    private void unlocking() {
        String words = "UNLOCKING: the next OBJECT that it LOCKED is LOCKED no more.";
        s.test(words, "those that it LOCKED, in order, and not the one that another has",
            "region(0, NONE, NONE) = 0; begin(5) = 0; begin(5) = 1; write(0, 0, 4, 1) = 1; write(1, 0, 6, 1) = 1",
            "write(1, 0, 2, 1) = 2; write(1, 0, 4, 1) = 3; write(1, 0, 0, 1) = 4; commit(0) = 1; step(0) = 4; commit(1) = 1",
            "step(1) = 1; step(1) = 1; step(1) = 6; count(7) = 3; step(1) = 6; object(0, 0, 6, 2) = NONE",
            "object(0, 0, 2, 2) = 1; step(1) = 8; object(0, 0, 2, 2) = NONE; object(0, 0, 4, 2) = 0; count(7) = 1");
        s.test(words, "VALUE and VERSION stay",
            "region(0, NONE, NONE) = 0; begin(5) = 0; begin(5) = 1; write(0, 0, 4, 1) = 1; read(0, 0, 5) = 0",
            "write(1, 0, 5, 1) = 1; commit(0) = 1; step(0) = 2; commit(1) = 1; step(1) = 4; step(0) = 6; step(0) = 8",
            "object(0, 0, 4, 0) = 0; object(0, 0, 4, 1) = 0; about(0, 4) = 0; begin(5) = 2; write(2, 0, 4, 7) = 1",
            "commit(2) = 1; step(2) = 4");
        s.test("Behind the last one it is ABORTED.", "and not ahead of it",
            "region(0, NONE, NONE) = 0; begin(5) = 0; begin(5) = 1; read(0, 0, 0) = 0; write(0, 0, 1, 1) = 1",
            "write(0, 0, 2, 1) = 2; write(1, 0, 0, 1) = 1; commit(1) = 1; step(1) = 4; commit(0) = 1; run(0, 2) = 2",
            "step(0) = 6; count(6) = 0; step(0) = 6; count(6) = 0; step(0) = 8; count(6) = 1; count(7) = 1");
    }

    private void passedOver() {
        String words = "A PHASE in which there is nothing to do is passed over, when the one ahead ends";
        s.test(words, "LOOKING: all that it has is written",
            "region(0, 1, NONE) = 0; begin(5) = 0; write(0, 0, 0, 1) = 1; commit(0) = 1; step(0) = 3");
        s.test(words, "BACKING: no BACKUPS",
            "region(0, NONE, NONE) = 0; begin(5) = 0; read(0, 0, 1) = 0; write(0, 0, 0, 1) = 1; commit(0) = 1; step(0) = 2",
            "step(0) = 4");
        s.test(words, "LOOKING and BACKING",
            "region(0, NONE, NONE) = 0; begin(5) = 0; write(0, 0, 0, 1) = 1; commit(0) = 1; step(0) = 4");
        s.test(words, "CLEANING: no RECORDS",
            "region(0, NONE, NONE) = 0; begin(5) = 0; write(0, 0, 0, 1) = 1; commit(0) = 1; step(0) = 4; step(0) = 7");
        s.test(words, "BACKING is not, if the last OBJECT alone has a BACKUP",
            "region(0, NONE, NONE) = 0; region(1, 2, NONE) = 1; begin(5) = 0; write(0, 0, 0, 1) = 1; write(0, 1, 0, 1) = 2",
            "commit(0) = 1; step(0) = 1; step(0) = 3; step(0) = 4; step(0) = 4; step(0) = 5; step(0) = 7");
        s.test(words, "BACKING: the BACKUPS are no MEMBERS any more",
            "region(0, 1, 2) = 0; fail(1) = 5; fail(2) = 4; configure() = 0; begin(5) = 0; write(0, 0, 0, 1) = 1; commit(0) = 1",
            "step(0) = 4; step(0) = 7");
        String at = "(LOCKING, as commit() is called, too; UNLOCKING likewise: it is ABORTED at once).";
        s.test(at, "LOCKING: no WRITES", "region(0, 1, NONE) = 0; begin(5) = 0; read(0, 0, 1) = 0; commit(0) = 2");
        s.test(at, "LOCKING and LOOKING: no OBJECTS at all", "begin(5) = 0; commit(0) = 7; count(5) = 1");
        s.test(at, "UNLOCKING: the first one could not be LOCKED",
            "region(0, NONE, NONE) = 0; begin(5) = 0; begin(5) = 1; write(0, 0, 0, 1) = 1; write(1, 0, 0, 1) = 1",
            "write(1, 0, 1, 1) = 2; commit(0) = 1; step(0) = 4; commit(1) = 1; step(1) = 8; count(7) = 1");
        s.test(at, "UNLOCKING: LOOKING without WRITES",
            "region(0, NONE, NONE) = 0; begin(5) = 0; begin(5) = 1; write(0, 0, 0, 1) = 1; read(1, 0, 0) = 0; commit(0) = 1",
            "step(0) = 4; commit(1) = 2; step(1) = 8; count(6) = 1");
    }

    private void waits() {
        String words = "WAITS: its COORDINATOR is GONE, or the MACHINE of the ACT (the PRIMARY, the BACKUP) is.";
        String begun = "region(0, 1, NONE) = 0; region(2, NONE, NONE) = 1; begin(3) = 0; read(0, 1, 0) = 0; write(0, 0, 0, 1) = 1; commit(0) = 1;";
        int[] machineOfAct = {0, 2, 1, 0, 1};
        int[] next = {2, 3, 4, 5, 7};
        for (int acts = 0; acts < PHASES.length; acts++) {
            String until = begun + (acts == 0 ? "" : "run(0, " + acts + ") = " + acts + ";") + "about(0, 0) = " + (acts + 1);
            s.test(words, PHASES[acts] + ": the COORDINATOR", until, "fail(3) = 5; step(0) = WAITS; run(0, 100) = 0");
            s.test(words, PHASES[acts] + ": the MACHINE of the ACT",
                until, "fail(" + machineOfAct[acts] + ") = 5; step(0) = WAITS; run(0, 100) = 0");
            StringBuilder others = new StringBuilder();
            int up = 6;
            for (int machine = 0; machine < 6; machine++) {
                if (machine != 3 && machine != machineOfAct[acts]) {
                    up--;
                    others.append("fail(").append(machine).append(") = ").append(up).append("; ");
                }
            }
            s.test(words, PHASES[acts] + ": no other MACHINE holds it up", until, others.toString(), "step(0) = " + next[acts]);
        }
        String unlocking = "region(0, 1, NONE) = 0; region(2, NONE, NONE) = 1; begin(3) = 0; begin(4) = 1; read(0, 1, 0) = 0; write(0, 0, 0, 1) = 1;"
            + "write(1, 1, 0, 1) = 1; commit(0) = 1; commit(1) = 1; step(1) = 4; step(0) = 2; step(0) = 6";
        s.test(words, "UNLOCKING: the COORDINATOR", unlocking, "fail(3) = 5; step(0) = WAITS; object(0, 0, 0, 2) = 0");
        s.test(words, "UNLOCKING: the PRIMARY", unlocking, "fail(0) = 5; step(0) = WAITS; object(0, 0, 0, 2) = 0");
        s.test(words, "UNLOCKING: no other MACHINE holds it up",
            unlocking, "fail(1) = 5; fail(2) = 4; fail(4) = 3; fail(5) = 2; step(0) = 8");
    }

    private void lost() {
        String words = "LOST (ahead of WAITS): the ACT is of a REGION that is LOST.";
        s.test(words, "LOCKING, with the COORDINATOR UP and GONE",
            "region(0, NONE, NONE) = 0; begin(5) = 0; write(0, 0, 0, 1) = 1; fail(0) = 5; configure() = 0; commit(0) = 1",
            "step(0) = LOST; run(0, 1) = 0; fail(5) = 4; step(0) = LOST");
        s.test(words, "LOOKING, with the COORDINATOR UP and GONE",
            "region(0, NONE, NONE) = 0; begin(5) = 0; read(0, 0, 0) = 0; commit(0) = 2; fail(0) = 5; step(0) = WAITS",
            "configure() = 0; step(0) = LOST; fail(5) = 4; step(0) = LOST");
        s.test(words, "an ACT of another REGION is done",
            "region(0, NONE, NONE) = 0; region(1, NONE, NONE) = 1; begin(5) = 0; read(0, 1, 0) = 0; read(0, 0, 0) = 0",
            "commit(0) = 2; fail(0) = 5; configure() = 0; step(0) = 2; step(0) = LOST");
        s.test(words, "it stays so until its COORDINATOR is no MEMBER",
            "region(0, NONE, NONE) = 0; begin(5) = 0; write(0, 0, 0, 1) = 1; fail(0) = 5; configure() = 0; commit(0) = 1",
            "step(0) = LOST; fail(5) = 4; configure() = 1; step(0) = STATE; about(0, 0) = 8");
    }

    private void places() {
        String words = "ORDER: a TRANSACTION's PLACE is told when its last WRITE was LOCKED";
        s.test(words, "not at commit(), not at the first of two, not later",
            "region(0, 1, NONE) = 0; begin(5) = 0; begin(5) = 1; write(0, 0, 0, 1) = 1; write(0, 0, 1, 1) = 2",
            "write(1, 0, 2, 1) = 1; commit(0) = 1; about(0, 5) = 0; step(0) = 1; about(0, 5) = 0; commit(1) = 1; step(1) = 3",
            "about(1, 5) = 1; step(0) = 3; about(0, 5) = 2; run(0, 100) = 6; about(0, 0) = 7; about(0, 5) = 2; about(1, 5) = 1");
        s.test(words, "one that could not be LOCKED has none, and takes none",
            "region(0, NONE, NONE) = 0; begin(5) = 0; begin(5) = 1; begin(5) = 2; write(0, 0, 0, 1) = 1; write(1, 0, 1, 1) = 1",
            "write(1, 0, 0, 1) = 2; commit(0) = 1; commit(1) = 1; step(0) = 4; step(1) = 1; step(1) = 6; about(1, 5) = 0",
            "step(1) = 8; about(1, 5) = 0; commit(2) = 7; about(2, 5) = 2");
        s.test(words, "one that LOOKING ends has one, and keeps it",
            "region(0, NONE, NONE) = 0; begin(5) = 0; begin(5) = 1; begin(5) = 2; read(0, 0, 0) = 0; write(0, 0, 1, 1) = 1",
            "write(1, 0, 0, 1) = 1; commit(0) = 1; step(0) = 2; commit(1) = 1; step(1) = 4; step(0) = 6; step(0) = 8",
            "about(0, 5) = 1; about(1, 5) = 2; commit(2) = 7; about(2, 5) = 3");
        s.test(words, "one that a new CONFIGURATION ends keeps it",
            "region(0, 1, NONE) = 0; begin(5) = 0; begin(4) = 1; write(0, 0, 0, 1) = 1; commit(0) = 1; step(0) = 3; fail(5) = 5",
            "configure() = 1; about(0, 0) = 8; about(0, 5) = 1; commit(1) = 7; about(1, 5) = 2");
        String without = "(one without WRITES: as commit() is called):";
        s.test(without, "ahead of LOOKING",
            "region(0, NONE, NONE) = 0; begin(5) = 0; read(0, 0, 0) = 0; about(0, 5) = 0; commit(0) = 2; about(0, 5) = 1",
            "step(0) = 7; about(0, 5) = 1");
        s.test(without, "one without OBJECTS", "begin(5) = 0; commit(0) = 7; about(0, 5) = 1");
        s.test(without, "one that is dropped has none",
            "begin(5) = 0; begin(5) = 1; drop(0) = 8; about(0, 5) = 0; commit(1) = 7; about(1, 5) = 1");
        s.test(without, "one that LOOKING ends keeps it",
            "region(0, NONE, NONE) = 0; begin(5) = 0; begin(5) = 1; read(0, 0, 0) = 0; write(1, 0, 0, 1) = 1; commit(1) = 1",
            "step(1) = 4; commit(0) = 2; step(0) = 8; about(0, 5) = 2");
        s.test("1, 2, .. in all.", "with and without WRITES in one row, up to 60",
            Sentences.each(0, 59, "begin(5) = #"), "region(0, NONE, NONE) = 0; write(58, 0, 0, 1) = 1; commit(59) = 7",
            Sentences.each(0, 57, "commit(#) = 7"), "commit(58) = 1; step(58) = 4; about(59, 5) = 1; about(0, 5) = 2",
            "about(57, 5) = 59; about(58, 5) = 60");
    }
}
