/** Promise 1, a new object, and how many calls it lasts. */
public final class NewObjectTest {
    private static final int[] WORKERS = {
        Integer.MIN_VALUE, Integer.MIN_VALUE + 1, -16, -1, 0, 1, 2, 3, 7, 15, 16, 17, 32, 100, 65536,
        Integer.MAX_VALUE - 1, Integer.MAX_VALUE
    };

    public static void main(String[] args) {
        Check.sentence("BAD = -1, NO = -2, FULL = -3", NewObjectTest::constants);
        Check.sentence("So many workers (brought to 1 .. 16)", NewObjectTest::anyNumberOfWorkers);
        Check.sentence("all places are 0", NewObjectTest::placesAreZero);
        Check.sentence("no transactions", NewObjectTest::noTransactions);
        Check.sentence("no weave", NewObjectTest::noWeave);
        Check.sentence("A new object is apart from others", NewObjectTest::objectsAreApart);
        Check.sentence("An object is used for at most 512 calls", NewObjectTest::lasts512Calls);
        Check.end();
    }

    private static void constants() {
        Check.due("BAD", VersionedBlock.BAD, -1);
        Check.due("NO", VersionedBlock.NO, -2);
        Check.due("FULL", VersionedBlock.FULL, -3);
    }

    private static void anyNumberOfWorkers() {
        for (int workers : WORKERS) {
            VersionedBlock x = new VersionedBlock(workers);
            for (int t = 0; t < 40; t++) {
                Programs.writeAdding(x, 9, t);
            }
            Check.due("execute() by " + workers, x.execute(), 40);
            Check.due("get(9) by " + workers, x.get(9), 780);
            x.weave(0x0123456789ABCDEFL);
            Check.due("execute() by " + workers + ", woven", x.execute(), 40);
            Check.due("get(9) by " + workers + ", woven", x.get(9), 1560);
        }
    }

    private static void placesAreZero() {
        for (int workers : WORKERS) {
            VersionedBlock x = new VersionedBlock(workers);
            for (int place = 0; place < 256; place++) {
                Check.due("get(" + place + ") by " + workers, x.get(place), 0);
            }
        }
    }

    private static void noTransactions() {
        for (int workers : WORKERS) {
            VersionedBlock x = new VersionedBlock(workers);
            Check.due("count()", x.count(), 0);
            Check.due("instruction(0, 0, 0)", x.instruction(0, 0, 0), VersionedBlock.NO);
            Programs.dueNoSuch("new", x, 0);
            Check.due("execute()", x.execute(), 0);
            Check.due("begin()", x.begin(), 0);
            Check.due("transaction()", x.transaction(), 0);
        }
    }

    private static void noWeave() {
        for (int workers : WORKERS) {
            Check.due("unweave() by " + workers, new VersionedBlock(workers).unweave(), 0);
            Check.due("weave(-1) by " + workers, new VersionedBlock(workers).weave(-1), 16);
        }
    }

    private static void objectsAreApart() {
        VersionedBlock x = new VersionedBlock(3);
        VersionedBlock y = new VersionedBlock(3);
        Programs.writeStoring(x, 2, 6);
        x.weave(1);
        x.put(1, 5);
        x.execute();
        Check.due("get(1) of another", y.get(1), 0);
        Check.due("get(2) of another", y.get(2), 0);
        Check.due("count() of another", y.count(), 0);
        Check.due("told(0, 0) of another", y.told(0, 0), VersionedBlock.BAD);
        Check.due("unweave() of another", y.unweave(), 0);
    }

    private static void lasts512Calls() {
        VersionedBlock x = new VersionedBlock(3);
        Programs.writeAdding(x, 5, 2);
        for (int call = 7; call < 512; call++) {
            Check.due("call " + call + ", execute()", x.execute(), 1);
        }
        Check.due("call 512, get(5)", x.get(5), 2 * 505);
    }
}
