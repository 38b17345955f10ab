/** Promise 9, execute: the block is done, whatever is woven. */
public final class ExecuteTest {
    public static void main(String[] args) {
        Check.sentence("What a transaction has stored it loads itself", ExecuteTest::loadsItsOwn);
        Check.sentence("others have it when it has halted", ExecuteTest::othersHaveIt);
        Check.sentence("others have it only when it has halted", ExecuteTest::notBeforeItHalts);
        Check.sentence("one that fails stores nothing", ExecuteTest::failedStoresNothing);
        Check.sentence("one that is too long stores nothing", ExecuteTest::tooLongStoresNothing);
        Check.sentence("all transactions in their order", ExecuteTest::inTheirOrder);
        Check.sentence("loading what the places hold behind those before it", ExecuteTest::behindThoseBefore);
        Check.sentence("loading all 64 bits of what they hold", ExecuteTest::all64BitsBehindThoseBefore);
        Check.sentence("of those before it alone", ExecuteTest::nothingOfThoseBehind);
        Check.sentence("whatever was loaded too early", ExecuteTest::seenTooEarly);
        Check.sentence("execute: The block is done", ExecuteTest::isDoneEachTime);
        Check.sentence("execute: how many transactions have halted", ExecuteTest::howManyHaveHalted);
        Check.sentence("execute: a full block", ExecuteTest::aFullBlock);
        Check.end();
    }

    private static void loadsItsOwn() {
        Weaves.inEach(x -> {
            x.put(0, 9);
            Programs.write(x, Programs.LOAD, 1, 3, Programs.SET, 2, 4, Programs.STORE, 2, 3,
                    Programs.LOAD, 0, 3, Programs.ADD, 0, 1);
            Programs.write(x, Programs.SET, 1, 7, Programs.STORE, 1, 1, Programs.SET, 2, 7 + 256,
                    Programs.STORE, 2, 2, Programs.LOAD, 0, 1);
            Programs.write(x, Programs.SET, 1, 8, Programs.STORE, 1, 1, Programs.LOAD, 0, 1,
                    Programs.FAIL, 0, 0);
            Check.due("execute()", x.execute(), 2);
            Programs.dueTold("loaded before and behind its store", x, 0, 1, 5, 2, 1, 13);
            Programs.dueTold("what it stored last, by any number", x, 1, 1, 5, 1, 1, 263);
            Programs.dueTold("its own, though it fails", x, 2, 2, 4, 1, 0, 8);
        });
    }

    private static void othersHaveIt() {
        Weaves.inEach(x -> {
            x.put(3, 1);
            Programs.writeLoading(x, 3);
            Programs.writeStoring(x, 3, 50);
            Programs.writeLoading(x, 3);
            Programs.writeStoring(x, 3 + 256, 60);
            Programs.writeLoading(x, 3 - 256);
            Check.due("execute()", x.execute(), 5);
            Check.due("result(0), before it", x.result(0), 1);
            Check.due("result(2), behind it", x.result(2), 50);
            Check.due("result(4), behind the other", x.result(4), 60);
            Check.due("get(3)", x.get(3), 60);
        });
    }

    /** Stores at once and halts late, storing another number in between. */
    private static void notBeforeItHalts() {
        Weaves.inEach(x -> {
            Programs.write(x, Programs.SET, 1, 3, Programs.STORE, 1, 1, Programs.SET, 2, 20,
                    Programs.SET, 4, 1, Programs.SUBTRACT, 2, 4, Programs.JUMP, 2, 4,
                    Programs.SET, 1, 3, Programs.SET, 5, 99, Programs.STORE, 5, 1);
            Programs.writeLoading(x, 3);
            Programs.writeAdding(x, 3, 1);
            Check.due("execute()", x.execute(), 3);
            Programs.dueTold("halts late", x, 0, 1, 47, 0, 1, 0);
            Programs.dueTold("the next", x, 1, 1, 2, 1, 0, 99);
            Programs.dueTold("the last", x, 2, 1, 5, 1, 1, 100);
        });
    }

    private static void failedStoresNothing() {
        Weaves.inEach(x -> {
            x.put(1, 5);
            Programs.writeStoring(x, 1, 50);
            x.instruction(Programs.FAIL, 0, 0);
            Programs.writeAdding(x, 1, 1);
            Programs.writeStoring(x, 2, 70);
            x.instruction(Programs.FAIL, 0, 0);
            Programs.writeLoading(x, 2);
            Check.due("execute()", x.execute(), 2);
            Programs.dueTold("failed", x, 0, 2, 4, 0, 0, 0);
            Programs.dueTold("behind it", x, 1, 1, 5, 1, 1, 6);
            Programs.dueTold("failed, too", x, 2, 2, 4, 0, 0, 0);
            Programs.dueTold("behind both", x, 3, 1, 2, 1, 0, 0);
            Check.due("get(1)", x.get(1), 6);
            Check.due("get(2)", x.get(2), 0);
        });
    }

    private static void tooLongStoresNothing() {
        Weaves.inEach(x -> {
            x.put(1, 5);
            Programs.writeStoring(x, 1, 50);
            Programs.more(x, Programs.JUMP, 1, 2);
            Programs.writeAdding(x, 1, 1);
            Programs.writeStoring(x, 2, 70);
            Programs.more(x, Programs.JUMP, 1, 3);
            Programs.writeLoading(x, 2);
            Check.due("execute()", x.execute(), 2);
            Programs.dueTold("too long", x, 0, 3, 300, 0, 0, 0);
            Programs.dueTold("behind it", x, 1, 1, 5, 1, 1, 6);
            Programs.dueTold("too long, too", x, 2, 3, 300, 0, 0, 0);
            Programs.dueTold("behind both", x, 3, 1, 2, 1, 0, 0);
            Check.due("get(1)", x.get(1), 6);
            Check.due("get(2)", x.get(2), 0);
        });
    }

    /** The first ones take longest, so that by themselves they would come last. */
    private static void inTheirOrder() {
        Weaves.inEach(x -> {
            for (int t = 0; t < 10; t++) {
                Programs.writeRounds(x, 20 - 2 * t, Programs.SET, 3, 100 + t, Programs.STORE, 3, 1);
            }
            Check.due("execute()", x.execute(), 10);
            Check.due("get(0)", x.get(0), 109);
        });
    }

    private static void behindThoseBefore() {
        Weaves.inEach(x -> {
            x.put(0, 1);
            for (int t = 0; t < 20; t++) {
                Programs.write(x, Programs.LOAD, 1, 7, Programs.SET, 2, 3,
                        Programs.MULTIPLY, 1, 2, Programs.SET, 3, t, Programs.ADD, 1, 3,
                        Programs.STORE, 1, 7, Programs.COPY, 0, 1);
            }
            Check.due("execute()", x.execute(), 20);
            long due = 1;
            for (int t = 0; t < 20; t++) {
                due = due * 3 + t;
                Programs.dueTold("a chain", x, t, 1, 7, 1, 1, due);
            }
            Check.due("get(0)", x.get(0), due);
        });
    }

    /** What was loaded too early differs in its highest bits alone. */
    private static void all64BitsBehindThoseBefore() {
        Weaves.inEach(x -> {
            for (int t = 0; t < 8; t++) {
                Programs.writeAdding(x, 5, 1L << 61);
            }
            Check.due("execute()", x.execute(), 8);
            for (int t = 0; t < 8; t++) {
                Check.due("result(" + t + ")", x.result(t), (t + 1) * (1L << 61));
            }
            Check.due("get(5)", x.get(5), 0);
        });
    }

    private static void nothingOfThoseBehind() {
        Weaves.inEach(x -> {
            x.put(4, 40);
            Programs.writeRounds(x, 20, Programs.SET, 3, 4, Programs.LOAD, 0, 3);
            Programs.writeStoring(x, 4, 41);
            Programs.writeLoading(x, 4);
            Check.due("execute()", x.execute(), 3);
            Programs.dueTold("the first", x, 0, 1, 44, 1, 0, 40);
            Programs.dueTold("the last", x, 2, 1, 2, 1, 0, 41);
        });
    }

    /**
     * Transaction 0 takes long and then opens place 0; those behind it go another way as long as it
     * is shut: one would fail, one would never end, one would store elsewhere, one would halt at once.
     */
    private static void seenTooEarly() {
        Weaves.inEach(x -> {
            Programs.writeRounds(x, 30, Programs.STORE, 2, 1);
            Programs.write(x, Programs.LOAD, 0, 1, Programs.JUMP, 0, 3, Programs.FAIL, 0, 0);
            Programs.write(x, Programs.SET, 2, 1, Programs.LOAD, 0, 1, Programs.JUMP, 0, 4,
                    Programs.JUMP, 2, 1);
            Programs.write(x, Programs.LOAD, 0, 1, Programs.SET, 2, 9, Programs.JUMP, 0, 5,
                    Programs.SET, 3, 7, Programs.STORE, 2, 3, Programs.SET, 3, 8, Programs.STORE, 2, 3);
            Programs.write(x, Programs.LOAD, 0, 1, Programs.JUMP, 0, 3, Programs.HALT, 0, 0,
                    Programs.FAIL, 0, 0);
            Check.due("execute()", x.execute(), 4);
            Programs.dueTold("opens", x, 0, 1, 63, 0, 1, 0);
            Programs.dueTold("would fail", x, 1, 1, 2, 1, 0, 1);
            Programs.dueTold("would never end", x, 2, 1, 3, 1, 0, 1);
            Programs.dueTold("would store elsewhere", x, 3, 1, 5, 1, 1, 1);
            Programs.dueTold("would halt", x, 4, 2, 3, 1, 0, 1);
            Check.due("get(7)", x.get(7), 0);
            Check.due("get(8)", x.get(8), 9);
        });
    }

    private static void isDoneEachTime() {
        VersionedBlock x = new VersionedBlock(4);
        Check.due("execute() of none", x.execute(), 0);
        Programs.writeAdding(x, 2, 5);
        Programs.writeAdding(x, 2, 6);
        Check.due("get(2), not done yet", x.get(2), 0);
        for (int n = 1; n <= 20; n++) {
            Check.due("execute() " + n, x.execute(), 2);
            Check.due("result(0) of " + n, x.result(0), 11L * n - 6);
            Check.due("get(2) of " + n, x.get(2), 11L * n);
        }
        x.begin();
        Check.due("execute() behind begin", x.execute(), 0);
        Check.due("get(2) behind begin", x.get(2), 220);
    }

    private static void howManyHaveHalted() {
        VersionedBlock x = new VersionedBlock(4);
        Check.due("none", x.execute(), 0);
        Programs.write(x, Programs.FAIL, 0, 0);
        Check.due("one failed", x.execute(), 0);
        Programs.write(x, Programs.SET, 0, 1, Programs.JUMP, 0, 0);
        Check.due("one too long besides", x.execute(), 0);
        Programs.write(x);
        Check.due("one halted besides", x.execute(), 1);
        Programs.write(x, Programs.HALT, 0, 0);
        Check.due("two halted besides", x.execute(), 2);
        Check.due("done again", x.execute(), 2);
        x.instruction(Programs.FAIL, 0, 0);
        Check.due("FAIL behind HALT", x.execute(), 2);
        Programs.write(x, Programs.SET, 0, 1, Programs.JUMP, 0, 99);
        Check.due("three halted besides", x.execute(), 3);
        x.instruction(Programs.FAIL, 0, 0);
        Check.due("FAIL jumped over", x.execute(), 3);
    }

    private static void aFullBlock() {
        Weaves.inEach(x -> {
            for (int t = 0; t < 64; t++) {
                Programs.writeAdding(x, 255, t + 1);
            }
            Check.due("execute()", x.execute(), 64);
            Check.due("result(63)", x.result(63), 2080);
            Check.due("execute() again", x.execute(), 64);
            Check.due("result(0)", x.result(0), 2081);
            Check.due("get(255)", x.get(255), 4160);
        });
    }
}
