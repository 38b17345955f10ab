/** The operations of the terms, one by one. */
public final class OperationsTest {
    private static final long MIN = Long.MIN_VALUE;
    private static final long MAX = Long.MAX_VALUE;
    private static final long[] NUMBERS = {
        MIN, MIN + 1, -(1L << 32), -257, -256, -9, -8, -1, 0, 1, 7, 8, 9, 255, 256, 1L << 31, 1L << 32, MAX
    };

    public static void main(String[] args) {
        Check.sentence("0 HALT", OperationsTest::halt);
        Check.sentence("1 SET: register a becomes b", OperationsTest::set);
        Check.sentence("2 LOAD: register a becomes what the place of register b holds", OperationsTest::load);
        Check.sentence("LOAD, places are numbers modulo 256", OperationsTest::loadsModulo256);
        Check.sentence("3 STORE: the place of register b gets register a", OperationsTest::store);
        Check.sentence("STORE, places are numbers modulo 256", OperationsTest::storesModulo256);
        Check.sentence("4 ADD (modulo 2^64)", OperationsTest::add);
        Check.sentence("5 SUBTRACT (modulo 2^64)", OperationsTest::subtract);
        Check.sentence("6 MULTIPLY (modulo 2^64)", OperationsTest::multiply);
        Check.sentence("register a becomes a and b together", OperationsTest::onlyTheFirstChanges);
        Check.sentence("7 JUMP: to instruction b", OperationsTest::jump);
        Check.sentence("if register a is not 0", OperationsTest::jumpsIfNotZero);
        Check.sentence("8 LESS: 1 if it is below register b, else 0", OperationsTest::less);
        Check.sentence("9 FAIL", OperationsTest::fail);
        Check.sentence("10 COPY: register a becomes register b", OperationsTest::copy);
        Check.end();
    }

    /** The operation with register 0, of the first number, and register 1, of the second one. */
    private static void dueOf(int operation, long first, long second, long want) {
        VersionedBlock x = Programs.done(
                Programs.SET, 0, first, Programs.SET, 1, second, operation, 0, 1);
        Programs.dueTold(operation + " of " + first + ", " + second, x, 0, 1, 3, 0, 0, want);
    }

    private static void halt() {
        VersionedBlock x = Programs.done(
                Programs.SET, 0, 2, Programs.HALT, 0, 0, Programs.FAIL, 0, 0);
        Programs.dueTold("HALT", x, 0, 1, 2, 0, 0, 2);
        for (long b : NUMBERS) {
            VersionedBlock y = Programs.done(
                    Programs.SET, 0, 2, Programs.HALT, (int) b, b, Programs.SET, 0, 3);
            Programs.dueTold("HALT " + b, y, 0, 1, 2, 0, 0, 2);
        }
    }

    private static void set() {
        for (long b : NUMBERS) {
            Check.due("SET 0, " + b, Programs.done(Programs.SET, 0, b).result(0), b);
            Check.due("SET 7, " + b, Programs.done(
                    Programs.SET, 7, b, Programs.COPY, 0, 7).result(0), b);
        }
        Check.due("SET again", Programs.done(Programs.SET, 0, 5, Programs.SET, 0, 6).result(0), 6);
    }

    private static void load() {
        VersionedBlock x = new VersionedBlock(2);
        x.put(1, 11);
        x.put(3, MIN + 3);
        Programs.write(x, Programs.SET, 1, 3, Programs.LOAD, 0, 1);
        Programs.write(x, Programs.SET, 1, 3, Programs.LOAD, 1, 1, Programs.COPY, 0, 1);
        Programs.write(x, Programs.SET, 1, 3, Programs.LOAD, 2, 1, Programs.COPY, 0, 1);
        Programs.write(x, Programs.SET, 0, 9, Programs.SET, 1, 4, Programs.LOAD, 0, 1);
        x.execute();
        Programs.dueTold("LOAD", x, 0, 1, 2, 1, 0, MIN + 3);
        Programs.dueTold("LOAD into the place's register", x, 1, 1, 3, 1, 0, MIN + 3);
        Programs.dueTold("LOAD leaves the other register", x, 2, 1, 3, 1, 0, 3);
        Programs.dueTold("LOAD of a place that holds 0", x, 3, 1, 3, 1, 0, 0);
        Check.due("get(3)", x.get(3), MIN + 3);
    }

    private static int placeOf(long number) {
        return (int) Math.floorMod(number, 256L);
    }

    private static void loadsModulo256() {
        for (long number : NUMBERS) {
            VersionedBlock x = new VersionedBlock(2);
            x.put(placeOf(number), 42);
            Programs.writeLoading(x, number);
            Check.due("execute()", x.execute(), 1);
            Check.due("LOAD from " + number, x.result(0), 42);
        }
        VersionedBlock y = new VersionedBlock(2);
        y.put(0, 10);
        y.put(255, 20);
        Programs.writeLoading(y, 256);
        Programs.writeLoading(y, -1);
        y.execute();
        Check.due("LOAD from 256", y.result(0), 10);
        Check.due("LOAD from -1", y.result(1), 20);
    }

    private static void store() {
        VersionedBlock x = new VersionedBlock(2);
        Programs.write(x, Programs.SET, 1, 3, Programs.SET, 2, MIN + 5, Programs.STORE, 2, 1,
                Programs.COPY, 0, 1);
        Programs.write(x, Programs.SET, 1, 4, Programs.STORE, 1, 1, Programs.COPY, 0, 1);
        Programs.write(x, Programs.SET, 1, 5, Programs.SET, 2, 6, Programs.STORE, 2, 1,
                Programs.SET, 2, 7, Programs.COPY, 0, 2);
        Programs.write(x, Programs.SET, 1, 6, Programs.SET, 2, 8, Programs.STORE, 2, 1,
                Programs.SET, 2, 9, Programs.STORE, 2, 1);
        x.execute();
        Programs.dueTold("STORE leaves register b", x, 0, 1, 4, 0, 1, 3);
        Programs.dueTold("STORE leaves register a", x, 1, 1, 3, 0, 1, 4);
        Check.due("get(3)", x.get(3), MIN + 5);
        Check.due("get(4), one register for both", x.get(4), 4);
        Check.due("get(5), the register changed later", x.get(5), 6);
        Check.due("get(6), stored twice", x.get(6), 9);
        Check.due("get(1), the register's number is no place", x.get(1), 0);
        Check.due("get(2), the register's number is no place", x.get(2), 0);
    }

    private static void storesModulo256() {
        for (long number : NUMBERS) {
            VersionedBlock x = new VersionedBlock(2);
            Programs.writeStoring(x, number, 43);
            Check.due("execute()", x.execute(), 1);
            Check.due("STORE to " + number, x.get(placeOf(number)), 43);
        }
        VersionedBlock y = new VersionedBlock(2);
        Programs.writeStoring(y, 256, 10);
        Programs.writeStoring(y, -1, 20);
        y.execute();
        Check.due("STORE to 256", y.get(0), 10);
        Check.due("STORE to -1", y.get(255), 20);
    }

    private static void add() {
        dueOf(Programs.ADD, 5, 7, 12);
        dueOf(Programs.ADD, 5, -7, -2);
        dueOf(Programs.ADD, MAX, 1, MIN);
        dueOf(Programs.ADD, MIN, -1, MAX);
        dueOf(Programs.ADD, MIN, MIN, 0);
        dueOf(Programs.ADD, Integer.MAX_VALUE, 1, 1L << 31);
    }

    private static void subtract() {
        dueOf(Programs.SUBTRACT, 7, 5, 2);
        dueOf(Programs.SUBTRACT, 5, 7, -2);
        dueOf(Programs.SUBTRACT, MIN, 1, MAX);
        dueOf(Programs.SUBTRACT, MAX, -1, MIN);
        dueOf(Programs.SUBTRACT, 0, MIN, MIN);
        dueOf(Programs.SUBTRACT, Integer.MIN_VALUE, 1, -(1L << 31) - 1);
    }

    private static void multiply() {
        dueOf(Programs.MULTIPLY, -5, 7, -35);
        dueOf(Programs.MULTIPLY, 0, MIN, 0);
        dueOf(Programs.MULTIPLY, 1L << 32, 1L << 31, MIN);
        dueOf(Programs.MULTIPLY, 1L << 32, 1L << 32, 0);
        dueOf(Programs.MULTIPLY, 1L << 33, (1L << 31) + 1, 1L << 33);
        dueOf(Programs.MULTIPLY, MIN, -1, MIN);
        dueOf(Programs.MULTIPLY, MAX, MAX, 1);
    }

    private static void onlyTheFirstChanges() {
        int[] operations = {Programs.ADD, Programs.SUBTRACT, Programs.MULTIPLY, Programs.LESS};
        long[] withItself = {12, 0, 36, 0};
        for (int i = 0; i < operations.length; i++) {
            VersionedBlock x = Programs.done(Programs.SET, 1, 6, Programs.SET, 2, 7,
                    operations[i], 1, 2, Programs.COPY, 0, 2);
            Check.due(operations[i] + " leaves register b", x.result(0), 7);
            VersionedBlock y = Programs.done(Programs.SET, 0, 6, operations[i], 0, 0);
            Check.due(operations[i] + " with itself", y.result(0), withItself[i]);
        }
    }

    private static void jump() {
        VersionedBlock over = Programs.done(
                Programs.SET, 0, 3, Programs.JUMP, 0, 3, Programs.FAIL, 0, 0, Programs.ADD, 0, 0);
        Programs.dueTold("a jump over one", over, 0, 1, 3, 0, 0, 6);
        VersionedBlock next = Programs.done(
                Programs.SET, 0, 3, Programs.JUMP, 0, 2, Programs.ADD, 0, 0);
        Programs.dueTold("a jump to the next", next, 0, 1, 3, 0, 0, 6);
        VersionedBlock back = Programs.done(
                Programs.JUMP, 1, 4, Programs.SET, 0, 8, Programs.SET, 1, 1, Programs.JUMP, 1, 0);
        Programs.dueTold("a jump back to 0", back, 0, 1, 5, 0, 0, 8);
        VersionedBlock itself = Programs.done(Programs.SET, 0, 1, Programs.JUMP, 0, 1);
        Programs.dueTold("a jump to itself", itself, 0, 3, 300, 0, 0, 0);
        VersionedBlock noRegister = Programs.done(
                Programs.SET, 0, 9, Programs.JUMP, 0, 9, Programs.FAIL, 0, 0, Programs.FAIL, 0, 0,
                Programs.FAIL, 0, 0, Programs.FAIL, 0, 0, Programs.FAIL, 0, 0, Programs.FAIL, 0, 0,
                Programs.FAIL, 0, 0, Programs.ADD, 0, 0);
        Programs.dueTold("a jump to 9, which is not modulo 8", noRegister, 0, 1, 3, 0, 0, 18);
    }

    private static void jumpsIfNotZero() {
        for (long number : NUMBERS) {
            VersionedBlock x = Programs.done(Programs.SET, 3, number, Programs.SET, 0, 4,
                    Programs.JUMP, 3, 4, Programs.FAIL, 0, 0, Programs.COPY, 0, 3);
            if (number == 0) {
                Programs.dueTold("no jump by 0", x, 0, 2, 4, 0, 0, 4);
            } else {
                Programs.dueTold("a jump by " + number, x, 0, 1, 4, 0, 0, number);
            }
            VersionedBlock y = Programs.done(Programs.JUMP, 0, number, Programs.SET, 0, 6);
            Programs.dueTold("no jump to " + number, y, 0, 1, 2, 0, 0, 6);
        }
    }

    private static void less() {
        dueOf(Programs.LESS, 1, 2, 1);
        dueOf(Programs.LESS, 2, 2, 0);
        dueOf(Programs.LESS, 3, 2, 0);
        dueOf(Programs.LESS, -1, 0, 1);
        dueOf(Programs.LESS, 0, -1, 0);
        dueOf(Programs.LESS, MIN, MAX, 1);
        dueOf(Programs.LESS, MAX, MIN, 0);
        dueOf(Programs.LESS, MIN, MIN, 0);
        dueOf(Programs.LESS, 1L << 32, 1, 0);
        dueOf(Programs.LESS, 0, 1L << 32, 1);
    }

    private static void fail() {
        VersionedBlock x = Programs.done(
                Programs.SET, 0, 2, Programs.FAIL, 0, 0, Programs.SET, 0, 3);
        Programs.dueTold("FAIL", x, 0, 2, 2, 0, 0, 2);
        for (long b : NUMBERS) {
            VersionedBlock y = Programs.done(Programs.FAIL, (int) b, b);
            Programs.dueTold("FAIL " + b, y, 0, 2, 1, 0, 0, 0);
        }
    }

    private static void copy() {
        for (long number : NUMBERS) {
            dueOf(Programs.COPY, 5, number, number);
            VersionedBlock x = Programs.done(
                    Programs.SET, 1, 5, Programs.SET, 0, number, Programs.COPY, 1, 0);
            Check.due("COPY leaves register b, " + number, x.result(0), number);
        }
        Check.due("COPY of itself", Programs.done(
                Programs.SET, 0, 5, Programs.COPY, 0, 0).result(0), 5);
    }
}
