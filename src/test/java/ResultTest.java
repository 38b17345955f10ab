/** Promise 12: result. */
public final class ResultTest {
    private static final int[] NO_TRANSACTIONS = {
        -1, -2, -64, 1, 2, 63, 64, 65, 256, Integer.MIN_VALUE, Integer.MIN_VALUE + 1, Integer.MAX_VALUE
    };

    public static void main(String[] args) {
        Check.sentence("The RESULT of transaction t", ResultTest::ofTransaction);
        Check.sentence("a number of 64 bits", ResultTest::of64Bits);
        Check.sentence("0 when it is too long", ResultTest::tooLong);
        Check.sentence("0 when told() would have none: no such transaction", ResultTest::noSuchTransaction);
        Check.sentence("0 when told() would have none: not done since it came", ResultTest::notDoneSinceItCame);
        Check.sentence("0 when told() would have none: got an instruction", ResultTest::gotAnInstruction);
        Check.end();
    }

    private static void ofTransaction() {
        VersionedBlock x = new VersionedBlock(4);
        for (int t = 0; t < 64; t++) {
            Programs.write(x, Programs.SET, 0, 100 + t, t % 2 == 0 ? Programs.HALT : Programs.FAIL, 0, 0);
        }
        x.execute();
        for (int t = 0; t < 64; t++) {
            Check.due("result(" + t + ")", x.result(t), 100 + t);
        }
        Check.due("result(0) again", x.result(0), 100);
    }

    private static void of64Bits() {
        long[] numbers = {Long.MIN_VALUE, Long.MAX_VALUE, -1, 1L << 32, -(1L << 32), (1L << 53) + 1};
        for (long number : numbers) {
            Check.due("result(0)", Programs.done(Programs.SET, 0, number).result(0), number);
        }
    }

    private static void tooLong() {
        VersionedBlock x = new VersionedBlock(2);
        x.put(9, 1);
        Programs.write(x, Programs.SET, 0, 5, Programs.SET, 1, 9, Programs.LOAD, 2, 1, Programs.JUMP, 2, 0);
        x.execute();
        Check.due("result(0), too long", x.result(0), 0);
        x.put(9, 0);
        x.execute();
        Check.due("result(0), halted", x.result(0), 5);
        x.put(9, 1);
        x.execute();
        Check.due("result(0), too long again", x.result(0), 0);
    }

    private static void noSuchTransaction() {
        VersionedBlock x = Programs.done(Programs.SET, 0, 5);
        for (int t : NO_TRANSACTIONS) {
            Check.due("result(" + t + ")", x.result(t), 0);
        }
        x.begin();
        Check.due("result(0) behind begin", x.result(0), 0);
    }

    private static void notDoneSinceItCame() {
        VersionedBlock x = new VersionedBlock(2);
        Programs.write(x, Programs.SET, 0, 5);
        Check.due("result(0), not done", x.result(0), 0);
        x.execute();
        Check.due("result(0), done", x.result(0), 5);
        x.begin();
        Programs.write(x, Programs.SET, 0, 6);
        Check.due("result(0) of a new block", x.result(0), 0);
    }

    private static void gotAnInstruction() {
        VersionedBlock x = new VersionedBlock(2);
        Programs.write(x, Programs.SET, 0, 5);
        Programs.write(x, Programs.SET, 0, 6);
        x.execute();
        x.instruction(Programs.HALT, 0, 0);
        Check.due("result(1), got one", x.result(1), 0);
        Check.due("result(0), got none", x.result(0), 5);
        Check.due("instruction(), BAD", x.instruction(-1, 0, 0), VersionedBlock.BAD);
        Check.due("result(0) still", x.result(0), 5);
        x.execute();
        Check.due("result(1), done again", x.result(1), 6);
        x.instruction(11, 0, 0);
        Check.due("result(1) behind a refused one", x.result(1), 6);
    }
}
