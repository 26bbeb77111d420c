/** Promise 4 with paragraph 3: which transactions are recovered, and how votes decide them. */
public final class RecoveryTest {
    private static final Play play = new Play();

    public static void main(String[] args) {
        whoIsRecovered();
        votes();
        lostRegions();
        whatIsSpread();
        play.end();
    }

    private static void whoIsRecovered() {
        play.run("others go on",
            "region(0, 1, NONE) = 0; region(2, 3, NONE) = 1; begin(4) = 0; begin(4) = 1; write(0, 0, 0, 5) = 1; write(1, 1, 0, 6) = 1",
            "commit(0) = 1; commit(1) = 1; run(0, 2) = 2; run(1, 2) = 2; fail(3) = 5; configure() = 1; about(0, 0) = 4",
            "object(0, 0, 0, 2) = 0; count(8) = 1; about(1, 0) = 8; run(0, 100) = 2; about(0, 0) = 7; object(1, 0, 0, 1) = 0");
        play.run("one that only reads where a machine has left goes on, at the new primary",
            "region(0, 1, NONE) = 0; region(2, NONE, NONE) = 1; begin(4) = 0; begin(4) = 1; read(0, 0, 0) = 0; read(1, 0, 0) = 0",
            "write(1, 1, 0, 1) = 1; commit(0) = 2; commit(1) = 1; step(1) = 2; fail(0) = 5; step(0) = WAITS; configure() = 0",
            "step(0) = 7; step(1) = 4; step(1) = 7");
        play.run("a machine that left in an earlier configuration is not counted again",
            "region(0, 1, NONE) = 0; fail(1) = 5; configure() = 0; begin(4) = 0; write(0, 0, 0, 5) = 1; commit(0) = 1; step(0) = 4",
            "fail(2) = 4; configure() = 0; about(0, 0) = 4; step(0) = 7; object(0, 0, 0, 0) = 5");
        play.run("one without writes whose coordinator left",
            "region(0, 1, NONE) = 0; begin(4) = 0; read(0, 0, 0) = 0; commit(0) = 2; fail(4) = 5; configure() = 1",
            "about(0, 0) = 8; about(0, 5) = 1; count(6) = 1");
        play.run("ended ones stay as they are",
            "region(0, 1, NONE) = 0; begin(0) = 0; begin(0) = 1; write(0, 0, 0, 5) = 1; write(1, 0, 1, 5) = 1; commit(0) = 1",
            "run(0, 100) = 4; drop(1) = 8; fail(0) = 5; configure() = 0; about(0, 0) = 7; about(1, 0) = 8");
        play.run("LOCKING and UNLOCKING ones let go of their locks",
            "region(0, NONE, NONE) = 0; region(1, NONE, NONE) = 1; begin(5) = 0; begin(5) = 1; write(0, 0, 0, 1) = 1; write(0, 1, 0, 1) = 2",
            "write(1, 0, 1, 1) = 1; read(1, 1, 0) = 0; commit(0) = 1; commit(1) = 1; run(0, 2) = 2; about(0, 0) = 4; step(1) = 2",
            "step(1) = 6; count(7) = 3; fail(5) = 5; configure() = 2; about(0, 0) = 8; about(1, 0) = 8; count(7) = 0");
    }

    private static void votes() {
        String two = "region(0, 1, NONE) = 0; region(2, 3, NONE) = 1; begin(4) = 0; write(0, 0, 0, 5) = 1; write(0, 1, 0, 6) = 2; commit(0) = 1";
        play.run("all locked and no record: aborted", two,
            "run(0, 2) = 2; about(0, 0) = 3; fail(4) = 5; configure() = 1; about(0, 0) = 8; about(0, 4) = 0; about(0, 5) = 1; count(7) = 0");
        play.run("2 and 1: committed", two,
            "run(0, 3) = 3; fail(4) = 5; configure() = 1; about(0, 0) = 7; about(0, 4) = 1; object(0, 0, 0, 0) = 5",
            "object(0, 1, 0, 0) = 5; object(1, 0, 0, 0) = 6; object(1, 1, 0, 1) = 1; count(7) = 0; count(8) = 0; unlike() = NONE");
        play.run("2 and 1 where a backup without a record has left: committed", two,
            "run(0, 3) = 3; fail(3) = 5; configure() = 1; about(0, 0) = 7; object(1, 0, 0, 0) = 6; copyAt(1, 1) = NONE");
        play.run("2 and 0, for the primary is another one: aborted", two,
            "run(0, 3) = 3; fail(2) = 5; configure() = 1; about(0, 0) = 8; object(0, 0, 0, 1) = 0; object(0, 1, 0, 1) = 0",
            "count(8) = 0; count(7) = 0; object(1, 0, 0, 1) = 0");
        play.run("1 and 1, for the one record has left: aborted", two,
            "run(0, 3) = 3; fail(1) = 5; configure() = 1; about(0, 0) = 8; machine(1, 3) = 0");
        play.run("2 and 2, both primaries have left: committed", two,
            "run(0, 4) = 4; about(0, 0) = 4; fail(0) = 5; fail(2) = 4; configure() = 1; about(0, 0) = 7; about(0, 4) = 1",
            "object(0, 0, 0, 0) = 5; object(1, 0, 0, 0) = 6");
        play.run("3 at a primary: committed", two,
            "run(0, 5) = 5; about(0, 4) = 1; fail(2) = 5; fail(3) = 4; fail(1) = 3; configure() = 1; about(0, 0) = 7; object(0, 0, 0, 1) = 1");
        play.run("3 at a primary that has left does not count, its record does", two,
            "run(0, 5) = 5; fail(0) = 5; configure() = 1; about(0, 0) = 7; object(0, 0, 0, 0) = 5; object(1, 1, 0, 0) = 6");
        play.run("3 at a backup that was cleaned: committed", two,
            "run(0, 7) = 7; about(0, 0) = 5; fail(0) = 5; fail(2) = 4; fail(3) = 3; configure() = 1; about(0, 0) = 7",
            "object(0, 0, 0, 0) = 5; count(9) = 1; check() = NONE");
        play.run("a region votes for all its objects: one record is enough for 2",
            "region(0, 1, NONE) = 0; begin(4) = 0; write(0, 0, 0, 5) = 1; write(0, 0, 1, 6) = 2; commit(0) = 1; run(0, 3) = 3",
            "about(0, 0) = 3; fail(0) = 5; configure() = 1; about(0, 0) = 7; object(0, 0, 0, 0) = 5; object(0, 0, 1, 0) = 6");
        play.run("3 outweighs 0: cleaned at a copy whose version was above already",
            "region(0, 1, 2) = 0; begin(4) = 0; begin(4) = 1; write(0, 0, 0, 5) = 1; commit(0) = 1; run(0, 4) = 4; about(0, 0) = 5",
            "write(1, 0, 0, 6) = 1; commit(1) = 1; run(1, 100) = 6; about(1, 0) = 7; step(0) = 5; object(0, 1, 0, 1) = 2",
            "fail(0) = 5; fail(2) = 4; configure() = 1; about(0, 0) = 7; object(0, 0, 0, 0) = 6; object(0, 0, 0, 1) = 2; check() = NONE");
    }

    private static void lostRegions() {
        play.run("a lost region has no vote: 2 elsewhere commits",
            "region(0, 1, NONE) = 0; region(2, NONE, NONE) = 1; begin(4) = 0; write(0, 0, 0, 5) = 1; write(0, 1, 0, 6) = 2; commit(0) = 1",
            "run(0, 3) = 3; about(0, 0) = 4; fail(2) = 5; configure() = 1; about(0, 0) = 7; about(0, 4) = 1; object(0, 1, 0, 0) = 5");
        play.run("no vote at all: aborted, and what was decided stays told",
            "region(0, NONE, NONE) = 0; region(1, NONE, NONE) = 1; begin(4) = 0; write(0, 0, 0, 5) = 1; write(0, 1, 0, 6) = 2",
            "commit(0) = 1; run(0, 3) = 3; about(0, 4) = 1; fail(0) = 5; configure() = 1; about(0, 0) = 8; about(0, 4) = 1",
            "object(1, 0, 0, 0) = 0; object(1, 0, 0, 2) = NONE; count(9) = 1; fail(1) = 4; configure() = 0; count(9) = 2");
        play.run("all regions lost: aborted",
            "region(0, 1, NONE) = 0; begin(4) = 0; write(0, 0, 0, 5) = 1; commit(0) = 1; run(0, 3) = 3; about(0, 0) = 5; fail(0) = 5",
            "fail(1) = 4; configure() = 1; about(0, 0) = 8; machine(1, 3) = 0; count(8) = 0; unlike() = NONE");
    }

    private static void whatIsSpread() {
        play.run("a higher version stays, whichever is recovered first",
            "region(0, 1, 2) = 0; begin(4) = 0; begin(4) = 1; write(1, 0, 0, 5) = 1; commit(1) = 1; run(1, 4) = 4; about(1, 0) = 5",
            "write(0, 0, 0, 6) = 1; item(0, 0, 3) = 1; commit(0) = 1; run(0, 2) = 2; object(0, 1, 0, 3) = 2; fail(0) = 5",
            "configure() = 2; about(0, 0) = 7; about(1, 0) = 7; object(0, 0, 0, 0) = 6; object(0, 0, 0, 1) = 2",
            "object(0, 1, 0, 0) = 6; object(0, 1, 0, 1) = 2; count(8) = 0; check() = NONE; unlike() = NONE");
        play.run("the locks of another one stay",
            "region(0, 1, NONE) = 0; begin(4) = 0; begin(5) = 1; write(0, 0, 0, 5) = 1; commit(0) = 1; run(0, 3) = 3; about(0, 0) = 5",
            "write(1, 0, 0, 6) = 1; commit(1) = 1; run(1, 2) = 2; fail(4) = 5; configure() = 1; about(0, 0) = 7; object(0, 0, 0, 2) = 1",
            "object(0, 1, 0, 0) = 5; object(0, 1, 0, 3) = 1; run(1, 9) = 2; about(1, 0) = 7; object(0, 1, 0, 0) = 6; object(0, 1, 0, 1) = 2");
        play.run("what is only read is not spread",
            "region(0, 1, NONE) = 0; begin(4) = 0; read(0, 0, 3) = 0; write(0, 0, 0, 5) = 1; commit(0) = 1; run(0, 3) = 3; about(0, 0) = 4",
            "fail(0) = 5; configure() = 1; about(0, 0) = 7; object(0, 0, 3, 0) = 0; object(0, 0, 3, 1) = 0; object(0, 0, 0, 1) = 1");
    }
}
