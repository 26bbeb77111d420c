/** Promises 18 to 20: check, unlike, count. */
public final class WholeTest {
    private static final Play play = new Play();

    public static void main(String[] args) {
        check();
        unlike();
        count();
        play.end();
    }

    private static void check() {
        play.run("18 check: by place, not by number",
            "region(0, 1, NONE) = 0; begin(4) = 0; begin(4) = 1; write(1, 0, 0, 5) = 1; commit(1) = 1; run(1, 100) = 4",
            "read(0, 0, 0) = 5; write(0, 0, 0, 6) = 1; commit(0) = 1; run(0, 100) = 4; about(1, 5) = 1; about(0, 5) = 2; check() = NONE; check() = NONE");
        String readOfOneThatIsLost =
            "region(0, NONE, NONE) = 0; region(1, NONE, NONE) = 1; begin(5) = 0; begin(5) = 1; begin(5) = 2; begin(5) = 3;"
            + "write(0, 0, 0, 7) = 1; write(0, 1, 0, 8) = 2; commit(0) = 1; run(0, 3) = 3; about(0, 0) = 4";
        play.run("18 check: read what one left that was aborted", readOfOneThatIsLost,
            "commit(3) = 7; read(2, 0, 0) = 7; commit(2) = 2; step(2) = 7; read(1, 0, 0) = 7; commit(1) = 2; step(1) = 7",
            "about(2, 5) = 3; about(1, 5) = 4; check() = 2; fail(0) = 5; configure() = 1; about(0, 0) = 8; check() = 2");
        play.run("18 check: one that is not yet committed has left nothing", readOfOneThatIsLost,
            "read(1, 0, 0) = 7; commit(1) = 2; step(1) = 7; check() = 1; step(0) = 7; check() = NONE");
        play.run("18 check: what is written was read, too", readOfOneThatIsLost,
            "write(1, 0, 0, 9) = 1; commit(1) = 1; run(1, 9) = 2; check() = 1; step(0) = 7; check() = NONE");
        play.run("18 check: values alone, an aborted one that read is not looked at",
            "region(0, NONE, NONE) = 0; region(1, NONE, NONE) = 1; begin(5) = 0; begin(5) = 1; begin(5) = 2; write(0, 0, 0, 0) = 1",
            "write(0, 1, 0, 8) = 2; commit(0) = 1; run(0, 3) = 3; read(1, 0, 0) = 0; commit(1) = 2; step(1) = 7; item(1, 0, 3) = 1",
            "fail(0) = 5; configure() = 1; about(0, 0) = 8; check() = NONE");
    }

    private static void unlike() {
        String regions = "region(0, 1, NONE) = 0; region(2, 3, 1) = 1; begin(5) = 0; unlike() = NONE";
        play.run("19 unlike: the first region, until its last copy is cleaned", regions,
            "write(0, 1, 0, 5) = 1; write(0, 0, 0, 5) = 2; commit(0) = 1; run(0, 5) = 5; unlike() = NONE; step(0) = 4; unlike() = 1",
            "step(0) = 5; unlike() = 0; run(0, 2) = 2; unlike() = 0; step(0) = 7; unlike() = NONE");
        play.run("19 unlike: versions count, too", regions,
            "write(0, 1, 7, 0) = 1; commit(0) = 1; run(0, 4) = 4; unlike() = 1; step(0) = 5; unlike() = 1; step(0) = 7; unlike() = NONE");
        play.run("19 unlike: a gone one counts while it is a member, a lost region never", regions,
            "write(0, 0, 7, 3) = 1; commit(0) = 1; run(0, 3) = 3; about(0, 0) = 5; fail(1) = 5; unlike() = 0; fail(0) = 4; unlike() = 0",
            "configure() = 1; unlike() = NONE");
    }

    private static void count() {
        play.run("20 count",
            "count(10) = OUTSIDE; count(-1) = OUTSIDE; count(2147483647) = OUTSIDE; region(0, 1, 2) = 0; region(3, NONE, NONE) = 1; count(0) = 2",
            "begin(4) = 0; begin(4) = 1; begin(5) = 2; count(1) = 3; write(0, 0, 0, 5) = 1; write(0, 1, 0, 6) = 2; write(1, 0, 1, 5) = 1",
            "commit(0) = 1; commit(1) = 1; run(0, 2) = 2; step(1) = 3; count(7) = 3; count(8) = 0; run(0, 2) = 2; step(1) = 3",
            "count(8) = 3; count(5) = 0; count(6) = 0; run(0, 2) = 2; count(7) = 1; drop(2) = 8; count(6) = 1; step(0) = 5",
            "count(8) = 2; step(0) = 7; count(8) = 1; count(5) = 1; fail(3) = 5; count(9) = 0; count(3) = 6; count(4) = 5; count(2) = 0",
            "configure() = 0; count(9) = 1; count(3) = 5; count(4) = 5; count(2) = 1; count(0) = 2; count(7) = 1; count(8) = 1",
            "fail(1) = 4; count(8) = 1; fail(0) = 3; count(7) = 1; configure() = 1; about(1, 0) = 8; count(7) = 0; count(8) = 0");
    }
}
