/** Promises 7 and 8, weave and unweave, and the weave of the terms. */
public final class WeaveTest {
    public static void main(String[] args) {
        Check.sentence("weave: Sixteen numbers come behind the weave: how many it has", WeaveTest::sixteenACall);
        Check.sentence("weave: any bits", WeaveTest::anyBits);
        Check.sentence("a row of at most 65536 numbers: FULL", WeaveTest::atMost65536);
        Check.sentence("a full weave is used like any other", WeaveTest::aFullWeaveIsUsed);
        Check.sentence("unweave: The weave is empty", WeaveTest::unweaveEmptiesIt);
        Check.sentence("unweave: how many numbers it had", WeaveTest::unweaveTellsHowManyItHad);
        Check.sentence("a WORKER (modulo how many there are)", WeaveTest::moduloTheWorkers);
        Check.sentence("used from its beginning by each execute()", WeaveTest::usedByEachExecute);
        Check.sentence("behind its end the workers go on in turn", WeaveTest::behindItsEnd);
        Check.sentence("It makes no difference to anything that is told", WeaveTest::makesNoDifference);
        Check.end();
    }

    private static void sixteenACall() {
        VersionedBlock x = new VersionedBlock(5);
        for (int n = 1; n <= 511; n++) {
            Check.due("weave() " + n, x.weave(n), 16 * n);
        }
        Check.due("unweave(), call 512", x.unweave(), 8176);
    }

    private static void anyBits() {
        long[] bits = {0, -1, 1, Long.MIN_VALUE, Long.MAX_VALUE, 0x0123456789ABCDEFL, 1L << 32};
        VersionedBlock x = new VersionedBlock(5);
        for (int i = 0; i < bits.length; i++) {
            Check.due("weave(" + bits[i] + ")", x.weave(bits[i]), 16 * (i + 1));
        }
    }

    private static VersionedBlock full() {
        VersionedBlock x = new VersionedBlock(7);
        Programs.writeAdding(x, 1, 1);
        Programs.writeAdding(x, 1, 1);
        for (int n = 1; n <= 4096; n++) {
            Check.due("weave() " + n, x.weave(0x0505050505050505L * n), 16 * n);
        }
        return x;
    }

    /** A weave is full only behind the 512th call, where answers are free: this holds all the same. */
    private static void atMost65536() {
        VersionedBlock x = full();
        Check.due("weave() of a full one", x.weave(1), VersionedBlock.FULL);
        Check.due("weave() of a full one again", x.weave(1), VersionedBlock.FULL);
        Check.due("unweave() of a full one", x.unweave(), 65536);
        Check.due("weave() behind it", x.weave(1), 16);
    }

    private static void aFullWeaveIsUsed() {
        VersionedBlock x = full();
        Check.due("execute() in a full weave", x.execute(), 2);
        Check.due("result(1)", x.result(1), 2);
        Check.due("get(1)", x.get(1), 2);
    }

    private static void unweaveEmptiesIt() {
        VersionedBlock x = new VersionedBlock(5);
        x.weave(1);
        x.weave(2);
        x.unweave();
        Check.due("unweave() again", x.unweave(), 0);
        Check.due("weave() behind unweave", x.weave(3), 16);
        Programs.writeAdding(x, 1, 1);
        x.execute();
        x.unweave();
        Programs.dueTold("unweave leaves what is told", x, 0, 1, 5, 1, 1, 1);
        Check.due("unweave leaves the block", x.count(), 1);
        Check.due("unweave leaves the places", x.get(1), 1);
        Check.due("execute() without a weave", x.execute(), 1);
        Check.due("get(1)", x.get(1), 2);
    }

    private static void unweaveTellsHowManyItHad() {
        VersionedBlock x = new VersionedBlock(5);
        Check.due("unweave() of none", x.unweave(), 0);
        x.weave(1);
        Check.due("unweave() of 16", x.unweave(), 16);
        for (int n = 0; n < 20; n++) {
            x.weave(n);
        }
        Check.due("unweave() of 320", x.unweave(), 320);
        Check.due("unweave() of none again", x.unweave(), 0);
    }

    /** Every number 0 .. 15 alone, for every number of workers. */
    private static void moduloTheWorkers() {
        for (int workers = 1; workers <= 16; workers++) {
            for (int number = 0; number < 16; number++) {
                VersionedBlock x = new VersionedBlock(workers);
                x.weave(0x1111111111111111L * number);
                x.weave(0x1111111111111111L * (15 - number));
                dueChain(x, "by " + workers + ", number " + number, 0);
            }
        }
    }

    /** Ten transactions that add 1 each to place 6, which holds so much before. */
    private static void dueChain(VersionedBlock x, String name, long before) {
        for (int t = 0; t < 10; t++) {
            Programs.writeAdding(x, 6, 1);
        }
        Check.due(name + ": execute()", x.execute(), 10);
        for (int t = 0; t < 10; t++) {
            Check.due(name + ": result(" + t + ")", x.result(t), before + t + 1);
        }
        Check.due(name + ": get(6)", x.get(6), before + 10);
    }

    private static void usedByEachExecute() {
        for (long word : Weaves.WORDS) {
            VersionedBlock x = new VersionedBlock(3);
            x.weave(word);
            for (int n = 0; n < 5; n++) {
                dueChain(x, "execute() " + n, 10 * n);
                x.begin();
            }
            Check.due("weave() behind five times", x.weave(word), 32);
            Check.due("unweave()", x.unweave(), 32);
        }
    }

    private static void behindItsEnd() {
        for (int workers = 1; workers <= 16; workers++) {
            VersionedBlock none = new VersionedBlock(workers);
            dueChain(none, "by " + workers + ", no weave", 0);
            for (long word : Weaves.WORDS) {
                VersionedBlock x = new VersionedBlock(workers);
                x.weave(word);
                dueChain(x, "by " + workers + ", sixteen numbers", 0);
            }
        }
    }

    private static void makesNoDifference() {
        Weaves.inEach(x -> {
            x.put(1, 10);
            Programs.writeAdding(x, 1, 5);
            Programs.write(x, Programs.LOAD, 0, 1, Programs.FAIL, 0, 0);
            Programs.write(x, Programs.SET, 1, 1, Programs.LOAD, 0, 1, Programs.JUMP, 1, 1);
            Programs.writeAdding(x, 1, 7);
            Programs.write(x, Programs.SET, 1, 1, Programs.LOAD, 0, 1, Programs.STORE, 0, 0);
            Check.due("count()", x.count(), 5);
            Check.due("execute()", x.execute(), 3);
            Programs.dueTold("halted", x, 0, 1, 5, 1, 1, 15);
            Programs.dueTold("failed", x, 1, 2, 2, 1, 0, 0);
            Programs.dueTold("too long", x, 2, 3, 300, 150, 0, 0);
            Programs.dueTold("halted behind them", x, 3, 1, 5, 1, 1, 22);
            Programs.dueTold("stores where it was told to", x, 4, 1, 3, 1, 1, 22);
            Programs.dueNoSuch("behind the last", x, 5);
            Check.due("get(1)", x.get(1), 22);
            Check.due("get(22)", x.get(22), 22);
            Check.due("begin()", x.begin(), 5);
        });
    }
}
