/** Promise 9: execute. */
public final class ExecuteTest {
    public static void main(String[] args) {
        eachLoadsWhatStandsBehindThoseBefore();
        onlyHaltedOnesStore();
        loadsItsOwnStores();
        tooLong();
        isDoneAnewEachTime();
        theWeaveMakesNoDifference();
        Check.end();
    }

    private static void eachLoadsWhatStandsBehindThoseBefore() {
        VersionedBlock x = new VersionedBlock(16);
        x.put(7, 1000);
        for (int t = 0; t < 64; t++) {
            Programs.writeAdding(x, 7, t);
        }
        Check.due("execute()", x.execute(), 64);
        long sum = 1000;
        for (int t = 0; t < 64; t++) {
            sum += t;
            Programs.dueTold("a chain", x, t, 1, 5, 1, 1, sum);
        }
        Check.due("get(7)", x.get(7), sum);
    }

    private static void onlyHaltedOnesStore() {
        VersionedBlock x = new VersionedBlock(3);
        x.put(1, 5);
        Programs.write(x, Programs.SET, 0, 1, Programs.SET, 2, 50, Programs.STORE, 2, 0,
                Programs.FAIL, 0, 0);
        Programs.write(x, Programs.SET, 0, 1, Programs.SET, 2, 60, Programs.STORE, 2, 0,
                Programs.JUMP, 0, 1);
        Programs.writeAdding(x, 1, 1);
        Check.due("execute()", x.execute(), 1);
        Programs.dueTold("failed", x, 0, 2, 4, 0, 0, 1);
        Programs.dueTold("too long", x, 1, 3, 300, 0, 0, 0);
        Programs.dueTold("behind them", x, 2, 1, 5, 1, 1, 6);
        Check.due("get(1)", x.get(1), 6);
    }

    private static void loadsItsOwnStores() {
        VersionedBlock x = new VersionedBlock(2);
        x.put(0, 9);
        Programs.write(x, Programs.LOAD, 1, 3, Programs.SET, 2, 4, Programs.STORE, 2, 3,
                Programs.LOAD, 0, 3, Programs.ADD, 0, 1);
        x.execute();
        Programs.dueTold("its own", x, 0, 1, 5, 2, 1, 13);
    }

    /** Counts register 1 down from so many, two instructions a round, behind two at the beginning. */
    private static VersionedBlock rounds(int n, long... behind) {
        VersionedBlock x = new VersionedBlock(2);
        Programs.write(x, Programs.SET, 1, n, Programs.SET, 2, 1,
                Programs.SUBTRACT, 1, 2, Programs.JUMP, 1, 2);
        for (int i = 0; i + 2 < behind.length; i += 3) {
            x.instruction((int) behind[i], (int) behind[i + 1], behind[i + 2]);
        }
        x.execute();
        return x;
    }

    private static void tooLong() {
        Programs.dueTold("300 are done", rounds(149), 0, 1, 300, 0, 0, 0);
        Programs.dueTold("the 300th halts",
                rounds(148, Programs.SET, 0, 5, Programs.HALT, 0, 0), 0, 1, 300, 0, 0, 5);
        Programs.dueTold("the 300th fails",
                rounds(148, Programs.SET, 0, 5, Programs.FAIL, 0, 0), 0, 2, 300, 0, 0, 5);
        Programs.dueTold("the 301st would halt",
                rounds(149, Programs.HALT, 0, 0), 0, 3, 300, 0, 0, 0);
        Programs.dueTold("the 301st would fail",
                rounds(149, Programs.FAIL, 0, 0), 0, 3, 300, 0, 0, 0);
        Programs.dueTold("the 301st would be anything",
                rounds(149, Programs.SET, 0, 5), 0, 3, 300, 0, 0, 0);
        Programs.dueTold("for ever", Programs.done(
                Programs.SET, 0, 1, Programs.LOAD, 1, 2, Programs.JUMP, 0, 1), 0, 3, 300, 150, 0, 0);
    }

    private static void isDoneAnewEachTime() {
        VersionedBlock x = new VersionedBlock(4);
        Programs.writeAdding(x, 2, 5);
        Programs.writeAdding(x, 2, 6);
        for (int n = 1; n <= 20; n++) {
            Check.due("execute() " + n, x.execute(), 2);
            Check.due("result(0) of " + n, x.result(0), 11L * n - 6);
            Check.due("get(2) of " + n, x.get(2), 11L * n);
        }
        x.instruction(Programs.FAIL, 0, 0);
        Check.due("execute() with a failing one", x.execute(), 1);
        Check.due("get(2) with a failing one", x.get(2), 225);
    }

    /** Workers who stand still for long, and who load before others have stored. */
    private static void theWeaveMakesNoDifference() {
        long[] weaves = {
            0, -1, 0x0123456789ABCDEFL, 0xFEDCBA9876543210L, 0x0123012301230123L,
            0x1111111111111110L, 0x0222222222222222L, 0x0001000200030004L
        };
        for (long bits : weaves) {
            for (int workers = 1; workers <= 16; workers++) {
                VersionedBlock x = new VersionedBlock(workers);
                for (int n = 0; n < 20; n++) {
                    x.weave(bits);
                }
                for (int t = 0; t < 20; t++) {
                    Programs.write(x, Programs.LOAD, 1, 7, Programs.SET, 2, 3,
                            Programs.MULTIPLY, 1, 2, Programs.SET, 3, t, Programs.ADD, 1, 3,
                            Programs.STORE, 1, 7, Programs.COPY, 0, 1);
                }
                x.put(0, 1);
                Check.due("execute()", x.execute(), 20);
                long due = 1;
                for (int t = 0; t < 20; t++) {
                    due = due * 3 + t;
                    Programs.dueTold("woven " + bits, x, t, 1, 7, 1, 1, due);
                }
                Check.due("get(0)", x.get(0), due);
            }
        }
    }
}
