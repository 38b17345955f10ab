/** The operations by name, and ways to write transactions in one line. */
final class Programs {
    static final int HALT = 0;
    static final int SET = 1;
    static final int LOAD = 2;
    static final int STORE = 3;
    static final int ADD = 4;
    static final int SUBTRACT = 5;
    static final int MULTIPLY = 6;
    static final int JUMP = 7;
    static final int LESS = 8;
    static final int FAIL = 9;
    static final int COPY = 10;

    private Programs() {
    }

    /** A new transaction of the instructions in threes: operation, a, b. */
    static int write(VersionedBlock x, long... threes) {
        int t = x.transaction();
        more(x, threes);
        return t;
    }

    /** More instructions for the latest transaction. */
    static void more(VersionedBlock x, long... threes) {
        for (int i = 0; i + 2 < threes.length; i += 3) {
            x.instruction((int) threes[i], (int) threes[i + 1], threes[i + 2]);
        }
    }

    /** place += amount; the result is the new number. Told: 1, 5, 1, 1. */
    static int writeAdding(VersionedBlock x, long place, long amount) {
        return write(x, SET, 1, place, LOAD, 0, 1, SET, 2, amount, ADD, 0, 2, STORE, 0, 1);
    }

    /** The place gets a number. Told: 1, 3, 0, 1, and 0 as result. */
    static int writeStoring(VersionedBlock x, long place, long number) {
        return write(x, SET, 1, place, SET, 2, number, STORE, 2, 1);
    }

    /** The result is what the place holds. Told: 1, 2, 1, 0. */
    static int writeLoading(VersionedBlock x, long place) {
        return write(x, SET, 1, place, LOAD, 0, 1);
    }

    /**
     * Begins with 2 + 2 * rounds instructions, which leave 0 in register 1 and 1 in register 2; the
     * others come behind these.
     */
    static int writeRounds(VersionedBlock x, int rounds, long... behind) {
        int t = write(x, SET, 1, rounds, SET, 2, 1, SUBTRACT, 1, 2, JUMP, 1, 2);
        more(x, behind);
        return t;
    }

    /** An object whose block is the one transaction of these instructions, done. */
    static VersionedBlock done(long... threes) {
        VersionedBlock x = new VersionedBlock(2);
        write(x, threes);
        x.execute();
        return x;
    }

    /** All that is told of a transaction: the answers for what = 0, 1, 2, 3, and the result. */
    static void dueTold(String name, VersionedBlock x, int t, long... want) {
        for (int what = 0; what < 4; what++) {
            Check.due(name + ": told(" + t + ", " + what + ")", x.told(t, what), want[what]);
        }
        Check.due(name + ": result(" + t + ")", x.result(t), want[4]);
    }

    /** Nothing is told of the transaction, as it was not done since it came or got an instruction. */
    static void dueNothingTold(String name, VersionedBlock x, int t) {
        dueTold(name, x, t, VersionedBlock.NO, VersionedBlock.NO, VersionedBlock.NO, VersionedBlock.NO, 0);
    }

    /** There is no such transaction. */
    static void dueNoSuch(String name, VersionedBlock x, int t) {
        dueTold(name, x, t, VersionedBlock.BAD, VersionedBlock.BAD, VersionedBlock.BAD, VersionedBlock.BAD, 0);
    }
}
