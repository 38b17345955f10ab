/** How a transaction comes to its end, as the terms tell it. */
public final class EndsTest {
    private static final long MIN = Long.MIN_VALUE;
    private static final long MAX = Long.MAX_VALUE;

    public static void main(String[] args) {
        Check.sentence("done one after the other, from instruction 0 on", EndsTest::oneAfterTheOther);
        Check.sentence("where there is none (behind the last one) it halts", EndsTest::behindTheLast);
        Check.sentence("where there is none (jumped to) it halts", EndsTest::jumpedToNone);
        Check.sentence("none is there, though an older block had one", EndsTest::noneOfAnOlderBlock);
        Check.sentence("Each one that is done counts", EndsTest::eachOneCounts);
        Check.sentence("300 that are done are not too long", EndsTest::threeHundred);
        Check.sentence("where it would be the 301st, it is TOO LONG", EndsTest::tooLong);
        Check.sentence("the 301st itself is not done", EndsTest::the301stIsNotDone);
        Check.sentence("OUTCOME is 1 halted, 2 failed, 3 too long", EndsTest::outcomes);
        Check.sentence("RESULT what register 0 holds at its end", EndsTest::results);
        Check.sentence("(0 when it is too long)", EndsTest::noResultWhenTooLong);
        Check.end();
    }

    private static void oneAfterTheOther() {
        VersionedBlock x = Programs.done(
                Programs.SET, 0, 2, Programs.SET, 1, 3, Programs.ADD, 0, 1, Programs.MULTIPLY, 0, 0,
                Programs.SUBTRACT, 0, 1);
        Programs.dueTold("(2 + 3) ^ 2 - 3", x, 0, 1, 5, 0, 0, 22);
        Programs.dueTold("instruction 0", Programs.done(Programs.FAIL, 0, 0), 0, 2, 1, 0, 0, 0);
    }

    private static void behindTheLast() {
        Programs.dueTold("none at all", Programs.done(), 0, 1, 0, 0, 0, 0);
        Programs.dueTold("one", Programs.done(Programs.SET, 0, 7), 0, 1, 1, 0, 0, 7);
        VersionedBlock x = new VersionedBlock(2);
        x.transaction();
        for (int n = 1; n <= 32; n++) {
            x.instruction(Programs.SET, 0, n);
        }
        Check.due("execute()", x.execute(), 1);
        Programs.dueTold("all 32", x, 0, 1, 32, 0, 0, 32);
    }

    /** Three instructions, of which the third must not be done. */
    private static void jumpedToNone() {
        long[] none = {
            3, 4, 31, 32, 33, 99, 255, 256, 1L << 31, 1L << 32, (1L << 32) + 2, MAX - 1, MAX,
            -1, -2, -30, -32, -256, -(1L << 32), -(1L << 32) + 2, MIN, MIN + 2
        };
        for (long b : none) {
            VersionedBlock x = Programs.done(
                    Programs.SET, 0, 1, Programs.JUMP, 0, b, Programs.FAIL, 0, 0);
            Programs.dueTold("a jump to " + b, x, 0, 1, 2, 0, 0, 1);
        }
        VersionedBlock last = jumpInAFullOne(31);
        Programs.dueTold("a jump to the last of 32", last, 0, 2, 3, 0, 0, 1);
        VersionedBlock behind = jumpInAFullOne(32);
        Programs.dueTold("a jump behind the last of 32", behind, 0, 1, 2, 0, 0, 1);
    }

    private static VersionedBlock jumpInAFullOne(long b) {
        VersionedBlock x = new VersionedBlock(2);
        Programs.write(x, Programs.SET, 0, 1, Programs.JUMP, 0, b);
        for (int n = 3; n <= 32; n++) {
            x.instruction(Programs.FAIL, 0, 0);
        }
        x.execute();
        return x;
    }

    private static void noneOfAnOlderBlock() {
        VersionedBlock x = new VersionedBlock(2);
        x.transaction();
        for (int n = 1; n <= 32; n++) {
            x.instruction(Programs.FAIL, 0, 0);
        }
        x.execute();
        x.begin();
        Programs.write(x, Programs.SET, 0, 1);
        Check.due("execute()", x.execute(), 1);
        Programs.dueTold("behind the last", x, 0, 1, 1, 0, 0, 1);
        x.instruction(Programs.JUMP, 0, 20);
        Check.due("execute()", x.execute(), 1);
        Programs.dueTold("a jump to 20", x, 0, 1, 2, 0, 0, 1);
    }

    private static void eachOneCounts() {
        for (int operation = 0; operation <= 10; operation++) {
            VersionedBlock x = Programs.done(operation, 1, 2);
            Check.due("told(0, 1) of operation " + operation, x.told(0, 1), 1);
        }
        VersionedBlock jumps = Programs.done(
                Programs.SET, 1, 1, Programs.JUMP, 0, 0, Programs.JUMP, 1, 3, Programs.JUMP, 1, -5);
        Programs.dueTold("jumps taken or not, or to none", jumps, 0, 1, 4, 0, 0, 0);
        VersionedBlock over = Programs.done(
                Programs.SET, 1, 1, Programs.JUMP, 1, 3, Programs.SET, 0, 5, Programs.HALT, 0, 0);
        Programs.dueTold("what is jumped over does not count", over, 0, 1, 3, 0, 0, 0);
        VersionedBlock twice = rounds(2);
        Programs.dueTold("done twice counts twice", twice, 0, 1, 6, 0, 0, 0);
    }

    /** 2 + 2 * n instructions, with these behind them. */
    private static VersionedBlock rounds(int n, long... behind) {
        VersionedBlock x = new VersionedBlock(2);
        Programs.writeRounds(x, n, behind);
        x.execute();
        return x;
    }

    private static void threeHundred() {
        Programs.dueTold("299, behind the last",
                rounds(148, Programs.SET, 0, 5), 0, 1, 299, 0, 0, 5);
        Programs.dueTold("300, behind the last",
                rounds(149), 0, 1, 300, 0, 0, 0);
        Programs.dueTold("300, behind the last",
                rounds(148, Programs.SET, 0, 5, Programs.SET, 0, 6), 0, 1, 300, 0, 0, 6);
        Programs.dueTold("the 300th is HALT",
                rounds(148, Programs.SET, 0, 5, Programs.HALT, 0, 0, Programs.SET, 0, 6), 0, 1, 300, 0, 0, 5);
        Programs.dueTold("the 300th is FAIL",
                rounds(148, Programs.SET, 0, 5, Programs.FAIL, 0, 0), 0, 2, 300, 0, 0, 5);
        Programs.dueTold("the 300th jumps behind the last",
                rounds(148, Programs.SET, 0, 5, Programs.JUMP, 0, 6), 0, 1, 300, 0, 0, 5);
        Programs.dueTold("the 300th jumps to -1",
                rounds(148, Programs.SET, 0, 5, Programs.JUMP, 0, -1), 0, 1, 300, 0, 0, 5);
        VersionedBlock stores = rounds(148, Programs.SET, 0, 5, Programs.STORE, 0, 0);
        Programs.dueTold("the 300th is STORE", stores, 0, 1, 300, 0, 1, 5);
        Check.due("get(5) of it", stores.get(5), 5);
        VersionedBlock loads = rounds(148, Programs.SET, 0, 5, Programs.LOAD, 0, 0);
        Programs.dueTold("the 300th is LOAD", loads, 0, 1, 300, 1, 0, 0);
    }

    private static void tooLong() {
        for (int operation = 0; operation <= 10; operation++) {
            Programs.dueTold("the 301st would be " + operation,
                    rounds(149, operation, 0, 1), 0, 3, 300, 0, 0, 0);
        }
        Programs.dueTold("the 302nd would be HALT",
                rounds(149, Programs.SET, 0, 5, Programs.HALT, 0, 0), 0, 3, 300, 0, 0, 0);
        Programs.dueTold("the 300th jumps to one that is there",
                rounds(148, Programs.SET, 0, 5, Programs.JUMP, 0, 5), 0, 3, 300, 0, 0, 0);
        Programs.dueTold("for ever",
                Programs.done(Programs.SET, 0, 1, Programs.JUMP, 0, 0), 0, 3, 300, 0, 0, 0);
    }

    private static void the301stIsNotDone() {
        Check.due("LOAD as 301st: told(0, 2)", rounds(149, Programs.LOAD, 0, 1).told(0, 2), 0);
        VersionedBlock x = rounds(149, Programs.STORE, 2, 1);
        Check.due("STORE as 301st: told(0, 3)", x.told(0, 3), 0);
        Check.due("STORE as 301st: get(0)", x.get(0), 0);
        Check.due("FAIL as 301st: told(0, 0)", rounds(149, Programs.FAIL, 0, 0).told(0, 0), 3);
        Check.due("HALT as 301st: told(0, 0)", rounds(149, Programs.HALT, 0, 0).told(0, 0), 3);
        Check.due("HALT as 301st: told(0, 1)", rounds(149, Programs.HALT, 0, 0).told(0, 1), 300);
    }

    private static void outcomes() {
        Check.due("empty", Programs.done().told(0, 0), 1);
        Check.due("HALT", Programs.done(Programs.HALT, 0, 0).told(0, 0), 1);
        Check.due("FAIL", Programs.done(Programs.FAIL, 0, 0).told(0, 0), 2);
        Check.due("for ever", Programs.done(
                Programs.SET, 0, 1, Programs.JUMP, 0, 0).told(0, 0), 3);
    }

    private static void results() {
        Check.due("HALT", Programs.done(
                Programs.SET, 0, MIN, Programs.SET, 1, 6, Programs.HALT, 1, 1).result(0), MIN);
        Check.due("behind the last", Programs.done(
                Programs.SET, 0, MAX, Programs.SET, 1, 6).result(0), MAX);
        Check.due("jumped to none", Programs.done(
                Programs.SET, 0, 1L << 32, Programs.JUMP, 0, 77).result(0), 1L << 32);
        Check.due("FAIL", Programs.done(
                Programs.SET, 0, -9, Programs.SET, 1, 6, Programs.FAIL, 1, 1).result(0), -9);
        Check.due("not register 1", Programs.done(Programs.SET, 1, 6).result(0), 0);
        Check.due("at its end, not before", Programs.done(
                Programs.SET, 0, 5, Programs.SET, 0, 4).result(0), 4);
    }

    private static void noResultWhenTooLong() {
        VersionedBlock x = Programs.done(Programs.SET, 0, 5, Programs.JUMP, 0, 0);
        Programs.dueTold("too long with 5 in register 0", x, 0, 3, 300, 0, 0, 0);
    }
}
