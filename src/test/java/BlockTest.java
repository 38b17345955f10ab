/** Promises 4, 5 and 10: begin, transaction and count. */
public final class BlockTest {
    public static void main(String[] args) {
        VersionedBlock x = new VersionedBlock(4);
        fills(x);
        beginsAgain(x);
        transactionsOfANewBlockAreEmpty();
        beginLeavesPlacesAndWeave();
        Check.end();
    }

    private static void fills(VersionedBlock x) {
        for (int t = 0; t < 64; t++) {
            Check.due("count()", x.count(), t);
            Check.due("transaction()", x.transaction(), t);
        }
        Check.due("count()", x.count(), 64);
        Check.due("transaction(), the 65th", x.transaction(), VersionedBlock.FULL);
        Check.due("transaction(), the 66th", x.transaction(), VersionedBlock.FULL);
        Check.due("count() of a full block", x.count(), 64);
        Check.due("execute() of empty ones", x.execute(), 64);
        Check.due("count() behind execute", x.count(), 64);
        Check.due("told(63, 0)", x.told(63, 0), 1);
        Check.due("told(64, 0)", x.told(64, 0), VersionedBlock.BAD);
    }

    private static void beginsAgain(VersionedBlock x) {
        Check.due("begin()", x.begin(), 64);
        Check.due("count() behind begin", x.count(), 0);
        Check.due("begin() again", x.begin(), 0);
        Check.due("told(0, 0) behind begin", x.told(0, 0), VersionedBlock.BAD);
        Check.due("result(0) behind begin", x.result(0), 0);
        Check.due("instruction() behind begin", x.instruction(1, 0, 1), VersionedBlock.NO);
        Check.due("execute() behind begin", x.execute(), 0);
        Check.due("transaction() behind begin", x.transaction(), 0);
        Check.due("told(0, 0) of the new one", x.told(0, 0), VersionedBlock.NO);
        Check.due("count()", x.count(), 1);
    }

    private static void transactionsOfANewBlockAreEmpty() {
        VersionedBlock x = Programs.done(Programs.SET, 0, 7, Programs.STORE, 0, 0);
        Programs.dueTold("the first block", x, 0, 1, 2, 0, 1, 7);
        x.begin();
        x.transaction();
        Programs.dueTold("not done yet", x, 0, -2, -2, -2, -2, 0);
        Check.due("execute()", x.execute(), 1);
        Programs.dueTold("an empty one", x, 0, 1, 0, 0, 0, 0);
        Check.due("instruction()", x.instruction(Programs.SET, 0, 3), 1);
    }

    private static void beginLeavesPlacesAndWeave() {
        VersionedBlock x = new VersionedBlock(4);
        x.put(3, 33);
        x.weave(5);
        x.transaction();
        x.begin();
        Check.due("get(3) behind begin", x.get(3), 33);
        Check.due("unweave() behind begin", x.unweave(), 16);
    }
}
