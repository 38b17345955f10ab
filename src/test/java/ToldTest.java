/** Promise 11: told. */
public final class ToldTest {
    private static final int[] NO_WHATS = {
        -1, 4, 5, -2, -4, 256, 65536, Integer.MIN_VALUE, Integer.MIN_VALUE + 1, Integer.MAX_VALUE
    };
    private static final int[] NO_TRANSACTIONS = {
        -1, -2, -64, 2, 3, 63, 64, 65, 256, Integer.MIN_VALUE, Integer.MIN_VALUE + 1, Integer.MAX_VALUE
    };

    public static void main(String[] args) {
        Check.sentence("when the block was done last", ToldTest::whenDoneLast);
        Check.sentence("what = 0 its OUTCOME", ToldTest::outcome);
        Check.sentence("1 how many instructions it has done", ToldTest::done);
        Check.sentence("2 how many times it has loaded", ToldTest::loads);
        Check.sentence("what was done and loaded before it was too long counts, too", ToldTest::beforeTooLong);
        Check.sentence("done and loaded, in every weave", ToldTest::countsInEveryWeave);
        Check.sentence("3 in how many places it has put a number", ToldTest::stores);
        Check.sentence("a number at its end: none when it failed or was too long", ToldTest::noStores);
        Check.sentence("BAD when there is no such transaction", ToldTest::noSuchTransaction);
        Check.sentence("BAD when there is no such what", ToldTest::noSuchWhat);
        Check.sentence("NO when the block was not done since it came", ToldTest::notDoneSinceItCame);
        Check.sentence("NO when the block was not done since it got an instruction", ToldTest::gotAnInstruction);
        Check.sentence("a refused instruction was not got", ToldTest::refusedInstruction);
        Check.end();
    }

    /** Goes another way each time: loads, and stores when it is the first or second time, then fails. */
    private static void whenDoneLast() {
        VersionedBlock x = new VersionedBlock(2);
        Programs.write(x, Programs.LOAD, 0, 1, Programs.SET, 2, 1, Programs.JUMP, 0, 5,
                Programs.STORE, 2, 1, Programs.HALT, 0, 0, Programs.FAIL, 0, 0);
        x.execute();
        Programs.dueTold("the first time", x, 0, 1, 5, 1, 1, 0);
        Programs.dueTold("asked again", x, 0, 1, 5, 1, 1, 0);
        x.execute();
        Programs.dueTold("the second time", x, 0, 2, 4, 1, 0, 1);
        x.put(0, 0);
        Programs.dueTold("behind put", x, 0, 2, 4, 1, 0, 1);
        x.weave(1);
        Programs.dueTold("behind weave", x, 0, 2, 4, 1, 0, 1);
        x.execute();
        Programs.dueTold("the third time", x, 0, 1, 5, 1, 1, 0);
    }

    private static VersionedBlock oneOfEach() {
        VersionedBlock x = new VersionedBlock(3);
        Programs.write(x, Programs.SET, 0, 6);
        Programs.write(x, Programs.SET, 0, 7, Programs.LOAD, 1, 1, Programs.FAIL, 0, 0);
        Programs.write(x, Programs.LOAD, 1, 1, Programs.SET, 0, 8, Programs.JUMP, 0, 0);
        x.execute();
        return x;
    }

    private static void outcome() {
        VersionedBlock x = oneOfEach();
        Check.due("halted", x.told(0, 0), 1);
        Check.due("failed", x.told(1, 0), 2);
        Check.due("too long", x.told(2, 0), 3);
    }

    private static void done() {
        VersionedBlock x = oneOfEach();
        Check.due("halted", x.told(0, 1), 1);
        Check.due("failed", x.told(1, 1), 3);
        Check.due("too long", x.told(2, 1), 300);
        Check.due("empty", Programs.done().told(0, 1), 0);
    }

    private static void loads() {
        VersionedBlock x = Programs.done(
                Programs.SET, 1, 10, Programs.LOAD, 0, 1, Programs.LOAD, 0, 1, Programs.LOAD, 2, 3,
                Programs.STORE, 1, 1, Programs.LOAD, 0, 1, Programs.LOAD, 0, 1);
        Check.due("each time counts, its own too", x.told(0, 2), 5);
        Check.due("none", Programs.done(Programs.STORE, 0, 0).told(0, 2), 0);
        Check.due("empty", Programs.done().told(0, 2), 0);
        Check.due("before it failed", oneOfEach().told(1, 2), 1);
    }

    private static void beforeTooLong() {
        VersionedBlock x = oneOfEach();
        Programs.dueTold("too long", x, 2, 3, 300, 100, 0, 0);
        VersionedBlock y = Programs.done(
                Programs.SET, 0, 1, Programs.LOAD, 1, 2, Programs.STORE, 1, 2, Programs.JUMP, 0, 1);
        Programs.dueTold("its own, too", y, 0, 3, 300, 100, 0, 0);
        VersionedBlock z = new VersionedBlock(1);
        Programs.writeRounds(z, 148, Programs.LOAD, 0, 1, Programs.LOAD, 0, 1, Programs.LOAD, 0, 1);
        z.execute();
        Programs.dueTold("two loaded, the third would be the 301st", z, 0, 3, 300, 2, 0, 0);
    }

    /** What was done in vain does not count: the block is as if done one after the other. */
    private static void countsInEveryWeave() {
        Weaves.inEach(x -> {
            Programs.writeRounds(x, 15, Programs.SET, 3, 2, Programs.STORE, 3, 1);
            for (int t = 1; t < 6; t++) {
                Programs.write(x, Programs.SET, 2, 1, Programs.LOAD, 3, 1, Programs.LOAD, 4, 1,
                        Programs.SUBTRACT, 3, 2, Programs.JUMP, 3, 2, Programs.LOAD, 3, 1,
                        Programs.ADD, 3, 2, Programs.STORE, 3, 1);
            }
            Check.due("execute()", x.execute(), 6);
            Programs.dueTold("the first", x, 0, 1, 34, 0, 1, 0);
            for (int t = 1; t < 6; t++) {
                int rounds = t + 1;
                Programs.dueTold("as many rounds as before it", x, t, 1, 5 + 3 * rounds, 2 + rounds, 1, 0);
            }
        });
    }

    private static void stores() {
        VersionedBlock x = Programs.done(
                Programs.SET, 1, 10, Programs.SET, 2, 266, Programs.SET, 3, 11,
                Programs.STORE, 1, 1, Programs.STORE, 2, 2, Programs.STORE, 1, 3, Programs.STORE, 2, 1);
        Check.due("two places, four times", x.told(0, 3), 2);
        Check.due("the number that it held", Programs.done(Programs.STORE, 0, 0).told(0, 3), 1);
        Check.due("none", Programs.done(Programs.LOAD, 0, 0).told(0, 3), 0);
        Check.due("empty", Programs.done().told(0, 3), 0);
        VersionedBlock y = new VersionedBlock(1);
        Programs.write(y, Programs.SET, 1, 126, Programs.SET, 2, 1);
        for (int n = 0; n < 14; n++) {
            Programs.more(y, Programs.SUBTRACT, 1, 2, Programs.STORE, 2, 1);
        }
        Programs.more(y, Programs.JUMP, 1, 2);
        y.execute();
        Programs.dueTold("126 places", y, 0, 1, 2 + 9 * 29, 0, 126, 0);
        Check.due("get(0)", y.get(0), 1);
        Check.due("get(125)", y.get(125), 1);
        Check.due("get(126)", y.get(126), 0);
    }

    private static void noStores() {
        VersionedBlock failed = Programs.done(
                Programs.SET, 1, 1, Programs.STORE, 1, 1, Programs.STORE, 0, 0, Programs.FAIL, 0, 0);
        Check.due("failed", failed.told(0, 3), 0);
        VersionedBlock tooLong = Programs.done(
                Programs.SET, 1, 1, Programs.STORE, 1, 1, Programs.STORE, 0, 0, Programs.JUMP, 1, 0);
        Check.due("too long", tooLong.told(0, 3), 0);
        VersionedBlock halted = Programs.done(
                Programs.SET, 1, 1, Programs.STORE, 1, 1, Programs.STORE, 0, 0, Programs.HALT, 1, 0);
        Check.due("halted", halted.told(0, 3), 2);
    }

    private static void noSuchTransaction() {
        VersionedBlock x = new VersionedBlock(2);
        Check.due("told(0, 0) of none", x.told(0, 0), VersionedBlock.BAD);
        Check.due("told(-1, 0) of none", x.told(-1, 0), VersionedBlock.BAD);
        Programs.write(x, Programs.SET, 0, 6);
        Programs.write(x, Programs.SET, 0, 7);
        for (int t : NO_TRANSACTIONS) {
            Programs.dueNoSuch("not done", x, t);
        }
        x.execute();
        for (int t : NO_TRANSACTIONS) {
            Programs.dueNoSuch("done", x, t);
        }
        Programs.dueTold("the first", x, 0, 1, 1, 0, 0, 6);
        Programs.dueTold("the last", x, 1, 1, 1, 0, 0, 7);
        x.begin();
        Programs.dueNoSuch("behind begin", x, 0);
        Programs.dueNoSuch("behind begin", x, 1);
        x.transaction();
        Programs.dueNoSuch("of a new block", x, 1);
    }

    private static void noSuchWhat() {
        VersionedBlock x = new VersionedBlock(2);
        Programs.write(x, Programs.SET, 0, 6);
        x.execute();
        x.transaction();
        for (int what : NO_WHATS) {
            Check.due("told(0, " + what + "), done", x.told(0, what), VersionedBlock.BAD);
            Check.due("told(1, " + what + "), not done", x.told(1, what), VersionedBlock.BAD);
            Check.due("told(2, " + what + "), none", x.told(2, what), VersionedBlock.BAD);
            Check.due("told(-1, " + what + "), none", x.told(-1, what), VersionedBlock.BAD);
        }
        Programs.dueTold("a right one", x, 0, 1, 1, 0, 0, 6);
    }

    private static void notDoneSinceItCame() {
        VersionedBlock x = new VersionedBlock(2);
        x.transaction();
        Programs.dueNothingTold("not done", x, 0);
        x.execute();
        Programs.dueTold("done", x, 0, 1, 0, 0, 0, 0);
        x.transaction();
        Programs.dueTold("another came", x, 0, 1, 0, 0, 0, 0);
        Programs.dueNothingTold("the other", x, 1);
        x.execute();
        Programs.dueTold("the other, done", x, 1, 1, 0, 0, 0, 0);
        x.begin();
        x.transaction();
        Programs.dueNothingTold("of a new block", x, 0);
        x.begin();
        x.execute();
        x.transaction();
        Programs.dueNothingTold("done before it came", x, 0);
    }

    private static void gotAnInstruction() {
        VersionedBlock x = new VersionedBlock(2);
        Programs.write(x, Programs.SET, 0, 6);
        Programs.write(x, Programs.SET, 0, 7);
        Programs.dueNothingTold("never done", x, 1);
        x.execute();
        x.instruction(Programs.HALT, 0, 0);
        Programs.dueNothingTold("got one", x, 1);
        Programs.dueTold("the other got none", x, 0, 1, 1, 0, 0, 6);
        x.instruction(Programs.HALT, 0, 0);
        Programs.dueNothingTold("got two", x, 1);
        x.execute();
        Programs.dueTold("done again", x, 1, 1, 2, 0, 0, 7);
    }

    private static void refusedInstruction() {
        VersionedBlock x = new VersionedBlock(2);
        x.transaction();
        for (int n = 0; n < 32; n++) {
            x.instruction(Programs.SET, 0, n);
        }
        x.execute();
        Check.due("instruction(), BAD", x.instruction(11, 0, 99), VersionedBlock.BAD);
        Programs.dueTold("behind BAD", x, 0, 1, 32, 0, 0, 31);
        Check.due("instruction(), FULL", x.instruction(Programs.SET, 0, 99), VersionedBlock.FULL);
        Programs.dueTold("behind FULL", x, 0, 1, 32, 0, 0, 31);
    }
}
