/** Promises 4, 5 and 10, begin, transaction and count, and the block of the terms. */
public final class BlockTest {
    public static void main(String[] args) {
        Check.sentence("a row of at most 64 TRANSACTIONS", BlockTest::atMost64);
        Check.sentence("transaction: An empty transaction", BlockTest::isEmpty);
        Check.sentence("transaction: comes behind the others", BlockTest::comesBehindTheOthers);
        Check.sentence("transaction: its number, from 0", BlockTest::numbersFromZero);
        Check.sentence("transaction: FULL", BlockTest::fullChangesNothing);
        Check.sentence("begin: The block has no transactions again", BlockTest::beginEmptiesTheBlock);
        Check.sentence("begin: how many it had", BlockTest::beginTellsHowManyItHad);
        Check.sentence("begin: what it does not name stays", BlockTest::beginLeavesPlacesAndWeave);
        Check.sentence("begin: a new block has nothing of the old one", BlockTest::nothingOfTheOldBlock);
        Check.sentence("count: How many transactions there are", BlockTest::counts);
        Check.end();
    }

    private static VersionedBlock full() {
        VersionedBlock x = new VersionedBlock(4);
        for (int t = 0; t < 64; t++) {
            x.transaction();
            x.instruction(Programs.SET, 0, 100 + t);
        }
        return x;
    }

    private static void atMost64() {
        VersionedBlock x = full();
        Check.due("count()", x.count(), 64);
        Check.due("transaction(), the 65th", x.transaction(), VersionedBlock.FULL);
        Check.due("count() of a full block", x.count(), 64);
        Check.due("execute() of a full block", x.execute(), 64);
        for (int t = 0; t < 64; t++) {
            Check.due("result(" + t + ")", x.result(t), 100 + t);
        }
        Check.due("told(63, 0)", x.told(63, 0), 1);
        Check.due("told(64, 0)", x.told(64, 0), VersionedBlock.BAD);
    }

    private static void isEmpty() {
        VersionedBlock x = new VersionedBlock(2);
        x.transaction();
        x.instruction(Programs.FAIL, 0, 0);
        x.transaction();
        Check.due("execute()", x.execute(), 1);
        Programs.dueTold("the empty one", x, 1, 1, 0, 0, 0, 0);
        Check.due("its first instruction", x.instruction(Programs.SET, 0, 3), 1);
    }

    private static void comesBehindTheOthers() {
        VersionedBlock x = new VersionedBlock(4);
        Programs.writeStoring(x, 9, 1);
        Programs.writeStoring(x, 9, 2);
        x.execute();
        Check.due("get(9) of two", x.get(9), 2);
        Programs.writeStoring(x, 9, 3);
        x.execute();
        Check.due("get(9) of three", x.get(9), 3);
    }

    private static void numbersFromZero() {
        VersionedBlock x = new VersionedBlock(1);
        for (int t = 0; t < 64; t++) {
            Check.due("transaction()", x.transaction(), t);
        }
        x.begin();
        Check.due("transaction() behind begin", x.transaction(), 0);
        x.execute();
        Check.due("transaction() behind execute", x.transaction(), 1);
    }

    private static void fullChangesNothing() {
        VersionedBlock x = full();
        x.execute();
        for (int n = 0; n < 3; n++) {
            Check.due("transaction() of a full block", x.transaction(), VersionedBlock.FULL);
        }
        Check.due("count()", x.count(), 64);
        Programs.dueTold("the first", x, 0, 1, 1, 0, 0, 100);
        Programs.dueTold("the last", x, 63, 1, 1, 0, 0, 163);
        Check.due("instruction() still of the last", x.instruction(Programs.SET, 0, 5), 2);
        Check.due("execute()", x.execute(), 64);
        Check.due("result(63)", x.result(63), 5);
        Check.due("result(0)", x.result(0), 100);
    }

    private static void beginEmptiesTheBlock() {
        VersionedBlock x = full();
        x.execute();
        x.begin();
        Check.due("count()", x.count(), 0);
        Programs.dueNoSuch("behind begin", x, 0);
        Programs.dueNoSuch("behind begin", x, 63);
        Check.due("instruction()", x.instruction(Programs.SET, 0, 1), VersionedBlock.NO);
        Check.due("execute()", x.execute(), 0);
        for (int t = 0; t < 64; t++) {
            Check.due("transaction() of a new block", x.transaction(), t);
        }
        Check.due("transaction(), the 65th again", x.transaction(), VersionedBlock.FULL);
    }

    private static void beginTellsHowManyItHad() {
        VersionedBlock x = full();
        Check.due("begin() of 64", x.begin(), 64);
        Check.due("begin() of none", x.begin(), 0);
        x.transaction();
        Check.due("begin() of one", x.begin(), 1);
        Check.due("begin() of none again", x.begin(), 0);
        x.transaction();
        x.transaction();
        x.execute();
        Check.due("begin() of two", x.begin(), 2);
    }

    private static void beginLeavesPlacesAndWeave() {
        VersionedBlock x = new VersionedBlock(4);
        x.put(3, 33);
        x.weave(5);
        Programs.writeStoring(x, 4, 44);
        x.execute();
        x.begin();
        Check.due("get(3) behind begin", x.get(3), 33);
        Check.due("get(4) behind begin", x.get(4), 44);
        Check.due("weave(6) behind begin", x.weave(6), 32);
    }

    private static void nothingOfTheOldBlock() {
        VersionedBlock x = Programs.done(
                Programs.SET, 0, 7, Programs.STORE, 0, 0, Programs.LOAD, 1, 0, Programs.FAIL, 0, 0);
        Programs.dueTold("the old one", x, 0, 2, 4, 1, 0, 7);
        x.begin();
        x.transaction();
        Programs.dueNothingTold("the new one", x, 0);
        Check.due("execute()", x.execute(), 1);
        Programs.dueTold("the new one, done", x, 0, 1, 0, 0, 0, 0);
        Check.due("its first instruction", x.instruction(Programs.SET, 0, 3), 1);
        Check.due("execute()", x.execute(), 1);
        Programs.dueTold("the new one, done again", x, 0, 1, 1, 0, 0, 3);
        Programs.dueNoSuch("behind it", x, 1);
    }

    private static void counts() {
        VersionedBlock x = new VersionedBlock(4);
        for (int n = 0; n <= 64; n++) {
            Check.due("count() of " + n, x.count(), n);
            x.transaction();
        }
        Check.due("count() behind a refused one", x.count(), 64);
        x.execute();
        Check.due("count() behind execute", x.count(), 64);
        x.instruction(0, 0, 0);
        Check.due("count() behind instruction", x.count(), 64);
        x.begin();
        Check.due("count() behind begin", x.count(), 0);
    }
}
