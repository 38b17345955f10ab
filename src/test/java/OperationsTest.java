/** The instructions, as the document's terms tell them. */
public final class OperationsTest {
    private static final long MIN = Long.MIN_VALUE;
    private static final long MAX = Long.MAX_VALUE;

    public static void main(String[] args) {
        arithmetic();
        lessIsOfSignedNumbers();
        registersAreModuloEight();
        registersBeginAtZero();
        placesAreModulo256();
        jumps();
        jumpsToNowhere();
        ends();
        Check.end();
    }

    private static void dueOf(String name, int operation, long first, long second, long want) {
        VersionedBlock x = Programs.done(
                Programs.SET, 0, first, Programs.SET, 1, second, operation, 0, 1);
        Programs.dueTold(name + " " + first + ", " + second, x, 0, 1, 3, 0, 0, want);
    }

    private static void arithmetic() {
        dueOf("ADD", Programs.ADD, 5, 7, 12);
        dueOf("ADD", Programs.ADD, MAX, 1, MIN);
        dueOf("SUBTRACT", Programs.SUBTRACT, 5, 7, -2);
        dueOf("SUBTRACT", Programs.SUBTRACT, MIN, 1, MAX);
        dueOf("MULTIPLY", Programs.MULTIPLY, -5, 7, -35);
        dueOf("MULTIPLY", Programs.MULTIPLY, 1L << 33, (1L << 31) + 1, 1L << 33);
        dueOf("MULTIPLY", Programs.MULTIPLY, MIN, -1, MIN);
        dueOf("COPY", Programs.COPY, 5, 7, 7);
        dueOf("HALT", Programs.HALT, 5, 7, 5);
        Check.due("ADD to itself", Programs.done(Programs.SET, 0, 21, Programs.ADD, 0, 0).result(0), 42);
    }

    private static void lessIsOfSignedNumbers() {
        dueOf("LESS", Programs.LESS, 1, 2, 1);
        dueOf("LESS", Programs.LESS, 2, 2, 0);
        dueOf("LESS", Programs.LESS, 3, 2, 0);
        dueOf("LESS", Programs.LESS, -1, 0, 1);
        dueOf("LESS", Programs.LESS, MIN, MAX, 1);
        dueOf("LESS", Programs.LESS, MAX, MIN, 0);
    }

    private static void registersAreModuloEight() {
        Check.due("SET 8", Programs.done(Programs.SET, 8, 5).result(0), 5);
        Check.due("SET -8", Programs.done(Programs.SET, -8, 5).result(0), 5);
        Check.due("SET MIN", Programs.done(Programs.SET, Integer.MIN_VALUE, 5).result(0), 5);
        Check.due("SET 7 by -1", Programs.done(
                Programs.SET, -1, 5, Programs.COPY, 0, 7).result(0), 5);
        Check.due("COPY of -1", Programs.done(
                Programs.SET, 7, 5, Programs.COPY, 0, -1).result(0), 5);
        Check.due("COPY of 2^40 + 3", Programs.done(
                Programs.SET, 3, 5, Programs.COPY, 0, (1L << 40) + 3).result(0), 5);
        Check.due("SET's b is no register", Programs.done(Programs.SET, 0, 12345).result(0), 12345);
    }

    private static void registersBeginAtZero() {
        VersionedBlock x = new VersionedBlock(1);
        for (int r = 0; r < 8; r++) {
            Programs.write(x, Programs.SET, r, 100 + r);
        }
        for (int r = 0; r < 8; r++) {
            Programs.write(x, Programs.COPY, 0, r);
        }
        x.execute();
        for (int r = 0; r < 8; r++) {
            Check.due("register " + r + " of a new one", x.result(8 + r), 0);
        }
    }

    private static void placesAreModulo256() {
        long[] numbers = {-1, 255, 511, MAX, (1L << 40) - 1, -257};
        for (long number : numbers) {
            VersionedBlock x = new VersionedBlock(2);
            x.put(255, 42);
            Programs.write(x, Programs.SET, 1, number, Programs.LOAD, 0, 1);
            Programs.write(x, Programs.SET, 1, number, Programs.SET, 2, 43, Programs.STORE, 2, 1);
            x.execute();
            Check.due("LOAD from " + number, x.result(0), 42);
            Check.due("STORE to " + number, x.get(255), 43);
        }
        VersionedBlock y = Programs.done(
                Programs.SET, 1, MIN, Programs.SET, 2, 9, Programs.STORE, 2, 1);
        Check.due("STORE to MIN", y.get(0), 9);
    }

    private static void jumps() {
        VersionedBlock over = Programs.done(
                Programs.SET, 0, -3, Programs.JUMP, 0, 3, Programs.FAIL, 0, 0, Programs.SET, 0, 4);
        Programs.dueTold("a jump", over, 0, 1, 3, 0, 0, 4);
        VersionedBlock not = Programs.done(
                Programs.JUMP, 0, 2, Programs.SET, 0, 6, Programs.COPY, 1, 0);
        Programs.dueTold("no jump", not, 0, 1, 3, 0, 0, 6);
        VersionedBlock back = Programs.done(
                Programs.JUMP, 1, 4, Programs.SET, 0, 8, Programs.SET, 1, 1, Programs.JUMP, 1, 0);
        Programs.dueTold("a jump back", back, 0, 1, 5, 0, 0, 8);
    }

    private static void jumpsToNowhere() {
        long[] nowhere = {3, 4, 32, 33, 99, -1, MIN, MAX, 1L << 32, -(1L << 32), (1L << 32) + 2};
        for (long b : nowhere) {
            VersionedBlock x = Programs.done(
                    Programs.SET, 0, 1, Programs.JUMP, 0, b, Programs.FAIL, 0, 0);
            Programs.dueTold("a jump to " + b, x, 0, 1, 2, 0, 0, 1);
        }
    }

    private static void ends() {
        Programs.dueTold("empty", Programs.done(), 0, 1, 0, 0, 0, 0);
        Programs.dueTold("HALT", Programs.done(
                Programs.SET, 0, 2, Programs.HALT, 0, 0, Programs.FAIL, 0, 0), 0, 1, 2, 0, 0, 2);
        Programs.dueTold("FAIL", Programs.done(
                Programs.SET, 0, 2, Programs.FAIL, 0, 0, Programs.SET, 0, 3), 0, 2, 2, 0, 0, 2);
    }
}
