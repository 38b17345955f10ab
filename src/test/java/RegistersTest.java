/** The registers of the terms. */
public final class RegistersTest {
    /** Multiples of 8: whatever is added of them, the register is the same. */
    private static final int[] FIRSTS = {
        0, 8, 16, 80, -8, -16, -80, 256, Integer.MIN_VALUE, Integer.MAX_VALUE - 7
    };
    private static final long[] SECONDS = {
        0, 8, 16, -8, -16, 256, 1L << 31, 1L << 32, -(1L << 32), 1L << 62, Long.MIN_VALUE,
        Long.MAX_VALUE - 7
    };

    public static void main(String[] args) {
        Check.sentence("eight REGISTERS, numbered from 0", RegistersTest::eightOfThem);
        Check.sentence("which are 0 when it begins", RegistersTest::zeroWhenItBegins);
        Check.sentence("0 when it begins, done again", RegistersTest::zeroWhenDoneAgain);
        Check.sentence("0 when it begins, in every weave", RegistersTest::zeroInEveryWeave);
        Check.sentence("registers are a ... modulo 8", RegistersTest::firstsModulo8);
        Check.sentence("registers are ... b modulo 8", RegistersTest::secondsModulo8);
        Check.sentence("modulo 8, of each number", RegistersTest::eachNumberModulo8);
        Check.end();
    }

    private static void setAll(VersionedBlock x) {
        for (int r = 0; r < 8; r++) {
            x.instruction(Programs.SET, r, 100 + r);
        }
    }

    private static void eightOfThem() {
        VersionedBlock x = new VersionedBlock(1);
        for (int r = 0; r < 8; r++) {
            x.transaction();
            setAll(x);
            x.instruction(Programs.COPY, 0, r);
        }
        x.execute();
        for (int r = 0; r < 8; r++) {
            Check.due("register " + r, x.result(r), 100 + r);
        }
    }

    private static void zeroWhenItBegins() {
        VersionedBlock x = new VersionedBlock(1);
        for (int r = 0; r < 8; r++) {
            x.transaction();
            setAll(x);
            Programs.write(x, Programs.COPY, 0, r);
        }
        x.execute();
        for (int r = 0; r < 8; r++) {
            Check.due("register " + r + " of a new one", x.result(2 * r + 1), 0);
        }
    }

    /** Stores what register r holds when it begins, and leaves another number in it. */
    private static void zeroWhenDoneAgain() {
        for (int r = 0; r < 8; r++) {
            VersionedBlock x = new VersionedBlock(1);
            Programs.write(x, Programs.SET, r + 1, 9, Programs.STORE, r, r + 1, Programs.SET, r, 5);
            for (int n = 0; n < 3; n++) {
                x.put(9, 77);
                Check.due("execute()", x.execute(), 1);
                Check.due("get(9), from register " + r, x.get(9), 0);
            }
        }
    }

    /** What was seen too early is done anew: none of it stays in the registers. */
    private static void zeroInEveryWeave() {
        Weaves.inEach(x -> {
            for (int t = 0; t < 8; t++) {
                Programs.write(x, Programs.LOAD, 1, 7, Programs.ADD, 2, 1, Programs.SET, 3, 1,
                        Programs.ADD, 1, 3, Programs.STORE, 1, 7, Programs.COPY, 0, 2);
            }
            Check.due("execute()", x.execute(), 8);
            for (int t = 0; t < 8; t++) {
                Programs.dueTold("adding to register 2", x, t, 1, 6, 1, 1, t);
            }
        });
    }

    private static void firstsModulo8() {
        for (int more : FIRSTS) {
            Check.due("SET " + more, Programs.done(Programs.SET, more, 5).result(0), 5);
            dueOfAll(more, 0);
        }
    }

    private static void secondsModulo8() {
        for (long more : SECONDS) {
            dueOfAll(0, more);
        }
    }

    /** Each operation over registers 1 and 2, called by other numbers. */
    private static void dueOfAll(int moreFirst, long moreSecond) {
        dueOf(Programs.ADD, moreFirst, moreSecond, 26, 77);
        dueOf(Programs.SUBTRACT, moreFirst, moreSecond, -16, 77);
        dueOf(Programs.MULTIPLY, moreFirst, moreSecond, 105, 77);
        dueOf(Programs.LESS, moreFirst, moreSecond, 1, 77);
        dueOf(Programs.COPY, moreFirst, moreSecond, 21, 77);
        dueOf(Programs.LOAD, moreFirst, moreSecond, 77, 77);
        dueOf(Programs.STORE, moreFirst, moreSecond, 5, 5);
        VersionedBlock x = Programs.done(Programs.SET, 1, 5, Programs.JUMP, 1 + moreFirst, 3,
                Programs.FAIL, 0, 0, Programs.SET, 0, 9);
        Programs.dueTold("JUMP by register 1 + " + moreFirst, x, 0, 1, 3, 0, 0, 9);
    }

    private static void dueOf(int operation, int moreFirst, long moreSecond, long result, long held) {
        String name = operation + " of 1 + " + moreFirst + ", 2 + " + moreSecond;
        VersionedBlock x = new VersionedBlock(1);
        x.put(21, 77);
        Programs.write(x, Programs.SET, 1, 5, Programs.SET, 2, 21,
                operation, 1 + moreFirst, 2 + moreSecond, Programs.COPY, 0, 1);
        x.execute();
        Check.due(name + ": result(0)", x.result(0), result);
        Check.due(name + ": get(21)", x.get(21), held);
    }

    private static void eachNumberModulo8() {
        for (int number = -20; number <= 20; number++) {
            int register = Math.floorMod(number, 8);
            VersionedBlock x = Programs.done(
                    Programs.SET, number, 5, Programs.COPY, 0, register);
            Check.due("SET " + number + " is register " + register, x.result(0), 5);
            VersionedBlock y = Programs.done(
                    Programs.SET, register, 5, Programs.COPY, 0, number);
            Check.due("COPY of " + number + " is of register " + register, y.result(0), 5);
        }
        Check.due("SET MAX is register 7", Programs.done(
                Programs.SET, Integer.MAX_VALUE, 5, Programs.COPY, 0, 7).result(0), 5);
        Check.due("COPY of MAX is of register 7", Programs.done(
                Programs.SET, 7, 5, Programs.COPY, 0, Long.MAX_VALUE).result(0), 5);
    }
}
