/** Promise 6: instruction. */
public final class InstructionTest {
    private static final int[] NO_OPERATIONS = {
        -1, 11, 12, 16, 255, 256, -256, Integer.MIN_VALUE, Integer.MAX_VALUE
    };

    public static void main(String[] args) {
        withoutATransaction();
        fills();
        goesToTheLatest();
        refusedOnesChangeNothing();
        Check.end();
    }

    private static void withoutATransaction() {
        VersionedBlock x = new VersionedBlock(1);
        for (int operation = 0; operation <= 10; operation++) {
            Check.due("instruction(" + operation + ")", x.instruction(operation, 0, 0), VersionedBlock.NO);
        }
        for (int operation : NO_OPERATIONS) {
            Check.due("instruction(" + operation + ")", x.instruction(operation, 0, 0), VersionedBlock.BAD);
        }
    }

    private static void fills() {
        VersionedBlock x = new VersionedBlock(1);
        x.transaction();
        for (int n = 1; n <= 32; n++) {
            Check.due("instruction() " + n, x.instruction(n % 11, -n, Long.MIN_VALUE + n), n);
        }
        Check.due("instruction(), the 33rd", x.instruction(0, 0, 0), VersionedBlock.FULL);
        Check.due("a bad one in a full one", x.instruction(11, 0, 0), VersionedBlock.BAD);
        x.transaction();
        Check.due("instruction() of the next", x.instruction(0, 0, 0), 1);
    }

    private static void goesToTheLatest() {
        VersionedBlock x = new VersionedBlock(1);
        Programs.write(x, Programs.SET, 0, 1);
        Programs.write(x, Programs.SET, 0, 2);
        Check.due("instruction()", x.instruction(Programs.SET, 0, 3), 2);
        x.execute();
        Check.due("result(0)", x.result(0), 1);
        Check.due("result(1)", x.result(1), 3);
    }

    private static void refusedOnesChangeNothing() {
        VersionedBlock x = new VersionedBlock(1);
        x.transaction();
        for (int n = 0; n < 32; n++) {
            x.instruction(Programs.SET, 0, n);
        }
        x.execute();
        x.instruction(Programs.SET, 0, 99);
        x.instruction(11, 0, 99);
        Programs.dueTold("behind refused ones", x, 0, 1, 32, 0, 0, 31);
        x.execute();
        Programs.dueTold("done again", x, 0, 1, 32, 0, 0, 31);
    }
}
