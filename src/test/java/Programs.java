/** The operations by name, and ways to write transactions in one line. */
final class Programs {
    static final int HALT = 0;
    static final int SET = 1;
    static final int LOAD = 2;
    static final int STORE = 3;
    static final int ADD = 4;
    static final int SUBTRACT = 5;
    static final int MULTIPLY = 6;
    static final int JUMP = 7;
    static final int LESS = 8;
    static final int FAIL = 9;
    static final int COPY = 10;

    static final int OUTCOME = 0;
    static final int DONE = 1;
    static final int LOADS = 2;
    static final int STORES = 3;

    private Programs() {
    }

    /** A new transaction of the instructions in threes: operation, a, b. */
    static int write(VersionedBlock x, long... threes) {
        int t = x.transaction();
        for (int i = 0; i + 2 < threes.length; i += 3) {
            x.instruction((int) threes[i], (int) threes[i + 1], threes[i + 2]);
        }
        return t;
    }

    /** place += amount; the result is the new number. */
    static int writeAdding(VersionedBlock x, long place, long amount) {
        return write(x, SET, 1, place, LOAD, 0, 1, SET, 2, amount, ADD, 0, 2, STORE, 0, 1);
    }

    /** An object whose block is the one transaction of these instructions, done. */
    static VersionedBlock done(long... threes) {
        VersionedBlock x = new VersionedBlock(2);
        write(x, threes);
        x.execute();
        return x;
    }

    static void dueTold(String name, VersionedBlock x, int t, long... want) {
        for (int what = 0; what < 4; what++) {
            Check.due(name + ": told(" + t + ", " + what + ")", x.told(t, what), want[what]);
        }
        Check.due(name + ": result(" + t + ")", x.result(t), want[4]);
    }
}
