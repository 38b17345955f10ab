/** Promise 6, instruction, and how many a transaction has. */
public final class InstructionTest {
    private static final int[] NO_OPERATIONS = {
        -1, -2, -11, 11, 12, 16, 255, 256, 257, -256, 65536, 65537, Integer.MIN_VALUE,
        Integer.MIN_VALUE + 1, Integer.MAX_VALUE
    };

    public static void main(String[] args) {
        Check.sentence("a row of at most 32 INSTRUCTIONS", InstructionTest::atMost32);
        Check.sentence("An instruction comes behind those", InstructionTest::comesBehindThose);
        Check.sentence("of the latest transaction", InstructionTest::goesToTheLatest);
        Check.sentence("how many it has", InstructionTest::tellsHowManyItHas);
        Check.sentence("an operation with two numbers a and b", InstructionTest::anyNumbersWillDo);
        Check.sentence("BAD when operation is not 0 .. 10", InstructionTest::badOperations);
        Check.sentence("NO when there is no transaction", InstructionTest::noTransaction);
        Check.sentence("FULL", InstructionTest::fullChangesNothing);
        Check.sentence("BAD; NO; FULL, in this order", InstructionTest::badComesFirst);
        Check.end();
    }

    /** Register 0 counts 32 instructions, the first and the last one told apart from the others. */
    private static VersionedBlock full() {
        VersionedBlock x = new VersionedBlock(1);
        x.transaction();
        Check.due("instruction() 1", x.instruction(Programs.SET, 0, 1000), 1);
        Check.due("instruction() 2", x.instruction(Programs.SET, 1, 1), 2);
        for (int n = 3; n <= 31; n++) {
            Check.due("instruction() " + n, x.instruction(Programs.ADD, 0, 1), n);
        }
        Check.due("instruction() 32", x.instruction(Programs.ADD, 0, 0), 32);
        return x;
    }

    private static void atMost32() {
        VersionedBlock x = full();
        Check.due("instruction(), the 33rd", x.instruction(Programs.SET, 0, 0), VersionedBlock.FULL);
        Check.due("execute()", x.execute(), 1);
        Programs.dueTold("32 instructions", x, 0, 1, 32, 0, 0, 2 * 1029);
    }

    private static void comesBehindThose() {
        VersionedBlock x = new VersionedBlock(1);
        Programs.write(x, Programs.SET, 0, 1);
        x.execute();
        Check.due("result(0)", x.result(0), 1);
        x.instruction(Programs.SET, 0, 2);
        x.execute();
        Check.due("result(0) of two", x.result(0), 2);
        x.instruction(Programs.ADD, 0, 0);
        x.execute();
        Programs.dueTold("three", x, 0, 1, 3, 0, 0, 4);
    }

    private static void goesToTheLatest() {
        VersionedBlock x = new VersionedBlock(1);
        Programs.write(x, Programs.SET, 0, 1);
        Programs.write(x, Programs.SET, 0, 2);
        Check.due("instruction()", x.instruction(Programs.SET, 0, 3), 2);
        x.execute();
        Check.due("instruction() behind execute", x.instruction(Programs.SET, 0, 4), 3);
        x.execute();
        Programs.dueTold("the first", x, 0, 1, 1, 0, 0, 1);
        Programs.dueTold("the latest", x, 1, 1, 3, 0, 0, 4);
    }

    private static void tellsHowManyItHas() {
        VersionedBlock x = new VersionedBlock(1);
        for (int t = 0; t < 3; t++) {
            x.transaction();
            for (int n = 1; n <= 32; n++) {
                Check.due("instruction() " + n + " of " + t, x.instruction(n % 11, 0, 0), n);
            }
        }
        x.begin();
        x.transaction();
        Check.due("instruction() of a new block", x.instruction(0, 0, 0), 1);
    }

    private static void anyNumbersWillDo() {
        int[] firsts = {Integer.MIN_VALUE, -1, 0, 7, 8, 256, Integer.MAX_VALUE};
        long[] seconds = {Long.MIN_VALUE, -1, 0, 8, 256, 1L << 32, Long.MAX_VALUE};
        for (int operation = 0; operation <= 10; operation++) {
            for (int i = 0; i < firsts.length; i++) {
                VersionedBlock x = new VersionedBlock(1);
                x.transaction();
                Check.due("instruction(" + operation + ", " + firsts[i] + ", " + seconds[i] + ")",
                        x.instruction(operation, firsts[i], seconds[i]), 1);
                Check.due("execute()", x.execute(), operation == Programs.FAIL ? 0 : 1);
                Check.due("told(0, 1)", x.told(0, 1), 1);
            }
        }
    }

    private static void badOperations() {
        VersionedBlock x = new VersionedBlock(1);
        x.transaction();
        for (int operation : NO_OPERATIONS) {
            Check.due("instruction(" + operation + ")", x.instruction(operation, 0, 1), VersionedBlock.BAD);
        }
        x.execute();
        Programs.dueTold("none was taken", x, 0, 1, 0, 0, 0, 0);
        Check.due("instruction(11)", x.instruction(11, 0, 1), VersionedBlock.BAD);
        Programs.dueTold("still told", x, 0, 1, 0, 0, 0, 0);
        for (int operation = 0; operation <= 10; operation++) {
            Check.due("instruction(" + operation + ")", x.instruction(operation, 0, 1), operation + 1);
        }
    }

    private static void noTransaction() {
        VersionedBlock x = new VersionedBlock(1);
        for (int operation = 0; operation <= 10; operation++) {
            Check.due("instruction(" + operation + ")", x.instruction(operation, 0, 1), VersionedBlock.NO);
        }
        x.transaction();
        Check.due("the first one", x.instruction(Programs.SET, 0, 5), 1);
        x.begin();
        Check.due("instruction() behind begin", x.instruction(Programs.FAIL, 0, 6), VersionedBlock.NO);
        x.transaction();
        Check.due("execute()", x.execute(), 1);
        Programs.dueTold("none was taken", x, 0, 1, 0, 0, 0, 0);
    }

    private static void fullChangesNothing() {
        VersionedBlock x = full();
        x.execute();
        for (int operation = 0; operation <= 10; operation++) {
            Check.due("instruction(" + operation + ")", x.instruction(operation, 0, 1), VersionedBlock.FULL);
        }
        Programs.dueTold("still told", x, 0, 1, 32, 0, 0, 2 * 1029);
        x.execute();
        Programs.dueTold("done again", x, 0, 1, 32, 0, 0, 2 * 1029);
        x.transaction();
        Check.due("instruction() of the next", x.instruction(Programs.FAIL, 0, 0), 1);
        Check.due("execute()", x.execute(), 1);
        Programs.dueTold("beside the next", x, 0, 1, 32, 0, 0, 2 * 1029);
    }

    /** The document does not say which of two holds; it names BAD first. */
    private static void badComesFirst() {
        VersionedBlock x = new VersionedBlock(1);
        for (int operation : NO_OPERATIONS) {
            Check.due("instruction(" + operation + ") without a transaction",
                    x.instruction(operation, 0, 0), VersionedBlock.BAD);
        }
        VersionedBlock y = full();
        for (int operation : NO_OPERATIONS) {
            Check.due("instruction(" + operation + ") in a full one",
                    y.instruction(operation, 0, 0), VersionedBlock.BAD);
        }
    }
}
