/** Promises 1 to 8: a new object, machines, regions, copies and their objects. */
public final class MachinesTest {
    private static final Play play = new Play();

    public static void main(String[] args) {
        newObject();
        region();
        fail();
        configure();
        copy();
        machine();
        copyAt();
        object();
        play.end();
    }

    private static void newObject() {
        play.run("1 a new object",
            "count(0) = 0; count(1) = 0; count(2) = 0; count(3) = 6; count(4) = 6; count(5) = 0",
            "count(6) = 0; count(7) = 0; count(8) = 0; count(9) = 0; check() = NONE; unlike() = NONE",
            "machine(0, 0) = 1; machine(5, 0) = 1; machine(0, 1) = 1; machine(5, 1) = 1",
            "machine(3, 2) = 0; machine(3, 3) = 0; copyAt(0, 0) = UNKNOWN; about(0, 0) = UNKNOWN");
    }

    private static void region() {
        play.run("2 region: numbers, FULL",
            "region(0, 1, 2) = 0; region(5, NONE, NONE) = 1; region(3, 1, NONE) = 2; region(0, 1, 2) = 3",
            "region(4, 3, 2) = 4; region(2, 0, 5) = 5; count(0) = 6",
            "region(0, 1, 2) = FULL; region(0, 0, 2) = STATE; region(0, NONE, 2) = UNKNOWN; count(0) = 6");
        play.run("2 region: UNKNOWN",
            "region(-1, 1, 2) = UNKNOWN; region(6, 1, 2) = UNKNOWN; region(NONE, 1, 2) = UNKNOWN",
            "region(NONE, NONE, NONE) = UNKNOWN; region(0, 6, 2) = UNKNOWN; region(0, -1, NONE) = UNKNOWN",
            "region(0, 1, 6) = UNKNOWN; region(0, 1, -8) = UNKNOWN; region(0, NONE, 1) = UNKNOWN",
            "region(0, NONE, 0) = UNKNOWN; region(0, 0, 6) = UNKNOWN; region(-2147483648, 1, 2) = UNKNOWN",
            "region(0, 2147483647, 1) = UNKNOWN; count(0) = 0");
        play.run("2 region: STATE",
            "region(0, 0, NONE) = STATE; region(0, 0, 1) = STATE; region(0, 1, 0) = STATE",
            "region(0, 1, 1) = STATE; region(2, 2, 2) = STATE; count(0) = 0");
        play.run("2 region: gone ones may have copies until they are no members",
            "fail(2) = 5; region(2, 1, NONE) = 0; configure() = 0; region(2, NONE, NONE) = STATE",
            "region(1, 2, NONE) = STATE; region(1, 0, 2) = STATE; region(1, 0, 3) = 1; count(9) = 0");
    }

    private static void fail() {
        play.run("3 fail",
            "fail(6) = UNKNOWN; fail(-1) = UNKNOWN; fail(NONE) = UNKNOWN; count(4) = 6",
            "fail(3) = 5; fail(3) = STATE; count(4) = 5; machine(3, 0) = 0; machine(3, 1) = 1",
            "fail(0) = 4; fail(1) = 3; fail(2) = 2; fail(4) = 1; fail(5) = 0; fail(5) = STATE",
            "count(4) = 0; count(3) = 6; configure() = STATE; count(2) = 0");
        play.run("3 fail: gone for good",
            "fail(3) = 5; configure() = 0; fail(3) = STATE; machine(3, 0) = 0; machine(3, 1) = 0");
    }

    private static void configure() {
        play.run("4 configure: numbers and members",
            "configure() = STATE; count(2) = 0; fail(1) = 5; fail(4) = 4; count(3) = 6; configure() = 0",
            "count(2) = 1; count(3) = 4; machine(1, 1) = 0; machine(4, 1) = 0; machine(0, 1) = 1",
            "configure() = STATE; count(2) = 1; fail(0) = 3; configure() = 0; count(2) = 2; count(3) = 3");
        play.run("4 configure: no machine is up",
            "fail(0) = 5; fail(1) = 4; fail(2) = 3; fail(3) = 2; fail(4) = 1; configure() = 0; count(3) = 1",
            "fail(5) = 0; configure() = STATE; count(2) = 1; count(3) = 1");
        play.run("4 configure: open ones of a coordinator that is none",
            "region(0, 1, NONE) = 0; begin(2) = 0; begin(3) = 1; write(0, 0, 0, 5) = 1; write(1, 0, 0, 6) = 1",
            "fail(2) = 5; about(0, 0) = 0; configure() = 0; about(0, 0) = 8; about(1, 0) = 0; count(6) = 1",
            "about(0, 4) = 0; about(0, 5) = 0; commit(0) = STATE; commit(1) = 1; run(1, 100) = 4; about(1, 0) = 7");
    }

    private static void copy() {
        play.run("5 copy: like the primary, and the last one",
            "region(0, 1, NONE) = 0; begin(5) = 0; write(0, 0, 3, 77) = 1; write(0, 0, 7, -10) = 2; commit(0) = 1",
            "run(0, 100) = 8; about(0, 0) = 7; copy(0, 4) = 3; copyAt(0, 2) = 4; object(0, 2, 3, 0) = 77",
            "object(0, 2, 3, 1) = 1; object(0, 2, 7, 0) = -10; object(0, 2, 0, 1) = 0; object(0, 2, 3, 3) = 0",
            "machine(4, 2) = 1; unlike() = NONE; copy(0, 3) = STATE");
        play.run("5 copy: instead of those on machines that are no members",
            "region(0, 1, 2) = 0; copy(0, 3) = STATE; fail(1) = 5; copy(0, 3) = STATE; configure() = 0",
            "copy(0, 3) = 3; copyAt(0, 1) = 2; copyAt(0, 2) = 3; fail(0) = 4; fail(2) = 3; configure() = 0",
            "copy(0, 4) = 2; copy(0, 5) = 3; copyAt(0, 0) = 3; copyAt(0, 1) = 4; copyAt(0, 2) = 5; copyAt(0, 3) = NONE",
            "fail(3) = 2; fail(4) = 1; configure() = 0; copyAt(0, 0) = 5; copy(0, 5) = STATE; copy(0, 4) = STATE");
        play.run("5 copy: refusals",
            "copy(0, 0) = UNKNOWN; region(0, NONE, NONE) = 0; region(1, 2, NONE) = 1; copy(2, 0) = UNKNOWN",
            "copy(-1, 0) = UNKNOWN; copy(0, 6) = UNKNOWN; copy(0, -1) = UNKNOWN; copy(0, NONE) = UNKNOWN",
            "copy(0, 0) = STATE; fail(3) = 5; copy(1, 3) = STATE; fail(1) = 4; copy(1, 4) = STATE",
            "fail(0) = 3; copy(0, 4) = STATE; configure() = 0; copy(0, 4) = LOST; copy(0, 0) = LOST",
            "copy(0, 6) = UNKNOWN; copy(1, 1) = STATE; copy(1, 3) = STATE; copy(1, 4) = 2; count(9) = 1");
        play.run("5 copy: not while one that is under way writes there",
            "region(0, 1, NONE) = 0; region(2, 3, NONE) = 1; begin(5) = 0; write(0, 0, 0, 5) = 1; read(0, 1, 0) = 0",
            "copy(0, 3) = 3; begin(5) = 1; write(1, 1, 1, 5) = 1; read(1, 0, 1) = 0; commit(1) = 1; copy(1, 4) = STATE",
            "run(1, 100) = 5; about(1, 0) = 7; copy(1, 4) = 3");
        play.run("5 copy: one that is under way may read there, or write elsewhere",
            "region(0, 1, NONE) = 0; region(2, 3, NONE) = 1; begin(5) = 0; write(0, 1, 1, 5) = 1; read(0, 0, 1) = 0; commit(0) = 1",
            "copy(0, 4) = 3; copy(1, 4) = STATE");
        play.run("5 copy: six copies in all, of which three are left",
            "region(5, 4, 3) = 0; fail(5) = 5; fail(4) = 4; configure() = 0; copy(0, 2) = 2; copy(0, 1) = 3; fail(3) = 3; configure() = 0",
            "copy(0, 0) = 3; copyAt(0, 0) = 2; copyAt(0, 2) = 0; copyAt(0, 3) = NONE; begin(1) = 0; write(0, 0, 0, 5) = 1; commit(0) = 1",
            "run(0, 100) = 6; about(0, 0) = 7; object(0, 2, 0, 0) = 5; unlike() = NONE; machine(0, 2) = 1; machine(5, 2) = 1",
            "write(0, 0, 0, 6) = STATE; begin(1) = 1; write(1, 0, 0, 6) = 1; commit(1) = 1; run(1, 4) = 4; fail(2) = 2; fail(1) = 1",
            "configure() = 1; about(1, 0) = 7; object(0, 0, 0, 0) = 6; copyAt(0, 0) = 0; fail(0) = 0; configure() = STATE");
    }

    private static void machine() {
        play.run("6 machine",
            "region(0, 1, 2) = 0; region(3, 1, NONE) = 1; machine(1, 2) = 2; machine(0, 2) = 1; machine(5, 2) = 0",
            "begin(4) = 0; write(0, 0, 0, 5) = 1; write(0, 1, 0, 6) = 2; commit(0) = 1; run(0, 5) = 5; about(0, 0) = 4",
            "machine(0, 3) = 0; machine(1, 3) = 2; machine(2, 3) = 1; machine(3, 3) = 0; run(0, 3) = 3",
            "machine(1, 3) = 1; machine(2, 3) = 1; fail(1) = 5; machine(1, 0) = 0; machine(1, 1) = 1; machine(1, 3) = 1",
            "configure() = 1; machine(1, 1) = 0; machine(1, 2) = 2; machine(1, 3) = 0; machine(2, 3) = 0");
        play.run("6 machine: refusals",
            "machine(6, 0) = UNKNOWN; machine(-1, 0) = UNKNOWN; machine(6, 4) = UNKNOWN; machine(0, 4) = OUTSIDE",
            "machine(0, -1) = OUTSIDE; machine(NONE, 9) = UNKNOWN");
    }

    private static void copyAt() {
        play.run("7 copyAt",
            "copyAt(0, 0) = UNKNOWN; region(5, 3, 4) = 0; copyAt(0, 0) = 5; copyAt(0, 1) = 3; copyAt(0, 2) = 4",
            "copyAt(0, 3) = NONE; copyAt(0, -1) = NONE; copyAt(0, 2147483647) = NONE; copyAt(0, -2147483648) = NONE",
            "copyAt(1, 0) = UNKNOWN; copyAt(-1, 0) = UNKNOWN; copyAt(6, 9) = UNKNOWN; fail(5) = 5; copyAt(0, 0) = 5",
            "configure() = 0; copyAt(0, 0) = 3; copyAt(0, 1) = 4; copyAt(0, 2) = NONE",
            "fail(3) = 4; fail(4) = 3; configure() = 0; copyAt(0, 0) = NONE; count(9) = 1");
    }

    private static void object() {
        play.run("8 object",
            "region(0, 1, 2) = 0; begin(4) = 0; write(0, 0, 6, -1000000) = 1; commit(0) = 1; object(0, 0, 6, 2) = NONE",
            "step(0) = 3; object(0, 0, 6, 2) = 0; object(0, 1, 6, 2) = NONE; object(0, 0, 5, 2) = NONE; step(0) = 3",
            "object(0, 1, 6, 3) = 1; object(0, 2, 6, 3) = 0; object(0, 0, 6, 3) = 0; object(0, 1, 5, 3) = 0; step(0) = 4",
            "object(0, 2, 6, 3) = 1; step(0) = 5; object(0, 0, 6, 0) = -1000000; object(0, 0, 6, 1) = 1",
            "object(0, 0, 6, 2) = NONE; object(0, 1, 6, 0) = 0; object(0, 1, 6, 1) = 0; step(0) = 5",
            "object(0, 1, 6, 0) = -1000000; object(0, 1, 6, 1) = 1; object(0, 1, 6, 3) = 0; object(0, 2, 6, 1) = 0");
        play.run("8 object: refusals",
            "object(0, 0, 0, 0) = UNKNOWN; region(0, 1, NONE) = 0; object(1, 0, 0, 0) = UNKNOWN",
            "object(-1, 0, 0, 0) = UNKNOWN; object(0, 2, 0, 0) = UNKNOWN; object(0, -1, 0, 0) = UNKNOWN",
            "object(0, 0, 8, 0) = UNKNOWN; object(0, 0, -1, 0) = UNKNOWN; object(0, 0, 0, 4) = OUTSIDE",
            "object(0, 0, 0, -1) = OUTSIDE; object(0, 2, 0, 4) = UNKNOWN; object(0, 0, 8, 4) = UNKNOWN",
            "object(0, 1, 7, 0) = 0; fail(1) = 5; object(0, 1, 7, 0) = 0; configure() = 0; object(0, 1, 7, 0) = UNKNOWN",
            "fail(0) = 4; configure() = 0; object(0, 0, 0, 0) = UNKNOWN; object(0, 0, 0, 4) = UNKNOWN");
        play.run("8 object: records of several at one copy",
            "region(0, 1, NONE) = 0; begin(4) = 0; write(0, 0, 0, 5) = 1; commit(0) = 1; run(0, 3) = 3; about(0, 0) = 5",
            "begin(4) = 1; write(1, 0, 0, 6) = 1; commit(1) = 1; run(1, 2) = 2; object(0, 1, 0, 3) = 2; count(8) = 2",
            "run(1, 2) = 2; about(1, 0) = 7; object(0, 1, 0, 0) = 6; object(0, 1, 0, 1) = 2; object(0, 1, 0, 3) = 1",
            "step(0) = 7; object(0, 1, 0, 0) = 6; object(0, 1, 0, 1) = 2; count(8) = 0; check() = NONE");
    }
}
