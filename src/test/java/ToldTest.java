/** Promises 11 and 12: told and result. */
public final class ToldTest {
    private static final int[] NO_WHATS = {-1, 4, 5, -2, Integer.MIN_VALUE, Integer.MAX_VALUE};
    private static final int[] NO_TRANSACTIONS = {
        -1, 2, 3, 63, 64, 65, Integer.MIN_VALUE, Integer.MAX_VALUE
    };

    public static void main(String[] args) {
        wrongOnes();
        notDoneSince();
        countsOfLoadsAndStores();
        failedAndTooLong();
        Check.end();
    }

    private static void wrongOnes() {
        VersionedBlock x = new VersionedBlock(2);
        Programs.write(x, Programs.SET, 0, 6);
        x.execute();
        x.transaction();
        for (int what : NO_WHATS) {
            Check.due("told(0, " + what + ")", x.told(0, what), VersionedBlock.BAD);
            Check.due("told(1, " + what + ")", x.told(1, what), VersionedBlock.BAD);
        }
        for (int t : NO_TRANSACTIONS) {
            for (int what = 0; what < 4; what++) {
                Check.due("told(" + t + ", " + what + ")", x.told(t, what), VersionedBlock.BAD);
            }
            Check.due("result(" + t + ")", x.result(t), 0);
        }
        Programs.dueTold("a right one", x, 0, 1, 1, 0, 0, 6);
    }

    private static void notDoneSince() {
        VersionedBlock x = new VersionedBlock(2);
        Programs.write(x, Programs.SET, 0, 6);
        Programs.dueTold("not done", x, 0, -2, -2, -2, -2, 0);
        x.execute();
        Programs.dueTold("done", x, 0, 1, 1, 0, 0, 6);
        x.instruction(Programs.SET, 0, 7);
        Programs.dueTold("got an instruction", x, 0, -2, -2, -2, -2, 0);
        x.execute();
        Programs.write(x, Programs.SET, 0, 8);
        Programs.dueTold("another came", x, 0, 1, 2, 0, 0, 7);
        Programs.dueTold("the other", x, 1, -2, -2, -2, -2, 0);
        x.execute();
        Programs.dueTold("the other, done", x, 1, 1, 1, 0, 0, 8);
        x.begin();
        x.transaction();
        Programs.dueTold("a new block", x, 0, -2, -2, -2, -2, 0);
        Check.due("told(1, 0) of a new block", x.told(1, 0), VersionedBlock.BAD);
    }

    private static void countsOfLoadsAndStores() {
        VersionedBlock x = Programs.done(
                Programs.SET, 1, 10, Programs.SET, 2, 266, Programs.SET, 3, 11,
                Programs.STORE, 1, 1, Programs.STORE, 2, 2, Programs.STORE, 1, 3,
                Programs.LOAD, 0, 1, Programs.LOAD, 0, 1, Programs.LOAD, 4, 5);
        Programs.dueTold("places count once", x, 0, 1, 9, 3, 2, 266);
        VersionedBlock y = Programs.done(Programs.STORE, 0, 0);
        Programs.dueTold("the same number counts", y, 0, 1, 1, 0, 1, 0);
        VersionedBlock z = Programs.done(
                Programs.SET, 1, 256, Programs.SET, 2, 1, Programs.SET, 0, 1,
                Programs.SUBTRACT, 1, 2, Programs.STORE, 0, 1, Programs.JUMP, 1, 3);
        Programs.dueTold("too many places", z, 0, 3, 300, 0, 0, 0);
        VersionedBlock w = new VersionedBlock(1);
        w.transaction();
        w.instruction(Programs.SET, 1, 64);
        w.instruction(Programs.SET, 2, 1);
        for (int n = 0; n < 2; n++) {
            w.instruction(Programs.SUBTRACT, 1, 2);
            w.instruction(Programs.STORE, 1, 1);
        }
        w.instruction(Programs.JUMP, 1, 2);
        w.execute();
        Programs.dueTold("many places", w, 0, 1, 162, 0, 64, 0);
    }

    private static void failedAndTooLong() {
        VersionedBlock failed = Programs.done(
                Programs.LOAD, 1, 1, Programs.STORE, 1, 1, Programs.SET, 0, -9, Programs.FAIL, 0, 0);
        Programs.dueTold("failed", failed, 0, 2, 4, 1, 0, -9);
        VersionedBlock tooLong = Programs.done(
                Programs.SET, 0, 1, Programs.LOAD, 1, 2, Programs.STORE, 1, 2, Programs.JUMP, 0, 0);
        Programs.dueTold("too long", tooLong, 0, 3, 300, 75, 0, 0);
    }
}
