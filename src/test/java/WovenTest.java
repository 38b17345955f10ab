import java.util.Random;

/** Whatever is woven, all comes out as in the serial model: long runs of calls, made from seeds. */
public final class WovenTest {
    private static final int RUNS = 4000;
    private static final int CALLS = 512;
    /** So many calls are made at most between two looks at how many there were. */
    private static final int CALLS_OF_A_STEP = 20;
    private static final int[] ODD_INTS = {
        -1, -2, 4, 8, 16, 17, 63, 64, 255, 256, 257, Integer.MIN_VALUE, Integer.MAX_VALUE
    };
    private static final long[] ODD_LONGS = {
        -1, -2, 8, 31, 32, 33, 255, 256, 257, 1L << 32, -(1L << 32), Long.MIN_VALUE, Long.MAX_VALUE
    };

    private final Random random;
    private final VersionedBlock block;
    private final SerialModel model = new SerialModel();
    private final String name;
    private final int places;
    private int calls = 0;

    private WovenTest(int seed) {
        random = new Random(seed);
        int workers = random.nextInt(20) - 1;
        places = 1 + random.nextInt(6);
        block = new VersionedBlock(workers);
        name = "run " + seed + " by " + workers + ": ";
    }

    public static void main(String[] args) {
        Check.sentence("whatever is woven, all comes out as if they were done one after the other",
                WovenTest::runAll);
        Check.end();
    }

    private static void runAll() {
        for (int seed = 0; seed < RUNS && Check.allRight(); seed++) {
            new WovenTest(seed).run();
        }
    }

    private void run() {
        while (calls + CALLS_OF_A_STEP <= CALLS && Check.allRight()) {
            switch (random.nextInt(12)) {
                case 0, 1, 2, 3 -> writeOne();
                case 4 -> put(random.nextInt(places), random.nextInt(5));
                case 5 -> put(oddInt(), oddLong());
                case 6 -> weave();
                case 7, 8, 9 -> executeAndAsk();
                case 10 -> oddCalls();
                default -> seldom();
            }
        }
    }

    private void due(String call, long got, long want) {
        calls++;
        Check.due(name + "call " + calls + ", " + call, got, want);
    }

    private int oddInt() {
        return ODD_INTS[random.nextInt(ODD_INTS.length)];
    }

    private long oddLong() {
        return ODD_LONGS[random.nextInt(ODD_LONGS.length)];
    }

    private void put(int place, long v) {
        due("put", block.put(place, v) ? 1 : 0, model.put(place, v) ? 1 : 0);
    }

    private void transaction() {
        due("transaction", block.transaction(), model.transaction());
    }

    private void instruction(int operation, int a, long b) {
        due("instruction", block.instruction(operation, a, b), model.instruction(operation, a, b));
    }

    private void weave() {
        long bits = random.nextInt(3) == 0 ? random.nextInt(16) * 0x1111111111111111L : random.nextLong();
        due("weave", block.weave(bits), model.weave());
    }

    private void executeAndAsk() {
        due("execute", block.execute(), model.execute());
        for (int n = 0; n < 4; n++) {
            ask(random.nextInt(model.count() + 1), random.nextInt(4));
        }
        int place = random.nextInt(places);
        due("get", block.get(place), model.get(place));
    }

    private void ask(int t, int what) {
        due("told " + t + ", " + what, block.told(t, what), model.told(t, what));
        due("result " + t, block.result(t), model.result(t));
    }

    private void oddCalls() {
        ask(oddInt(), random.nextInt(4));
        ask(random.nextInt(model.count() + 1), oddInt());
        instruction(random.nextInt(14) - 1, oddInt(), oddLong());
        int place = oddInt();
        due("get", block.get(place), model.get(place));
        due("count", block.count(), model.count());
    }

    private void seldom() {
        if (random.nextInt(4) == 0) {
            due("begin", block.begin(), model.begin());
        } else if (random.nextInt(3) == 0) {
            due("unweave", block.unweave(), model.unweave());
        } else {
            for (int n = random.nextInt(20); n > 0; n--) {
                transaction();
            }
        }
    }

    private void writeOne() {
        transaction();
        switch (random.nextInt(4)) {
            case 0 -> writeMixing();
            case 1 -> writeLoop();
            default -> writeAnything(random.nextInt(10));
        }
    }

    private void writeMixing() {
        instruction(1, 1, random.nextInt(places));
        instruction(1, 2, random.nextInt(places));
        instruction(2, 3, 1);
        instruction(2, 4, 2);
        instruction(4 + random.nextInt(3), 3, 4);
        instruction(3, 3, random.nextInt(2) + 1);
        instruction(10, 0, 3);
        if (random.nextInt(6) == 0) {
            instruction(9, 0, 0);
        }
    }

    /** Goes on as long as a place asks for, so that what is seen too early leads elsewhere. */
    private void writeLoop() {
        instruction(1, 2, 1);
        instruction(1, 1, random.nextInt(places));
        instruction(2, 3, 1);
        instruction(5, 3, 2);
        instruction(random.nextInt(3) + 2, random.nextInt(3), 1);
        instruction(7, 3, 3);
        instruction(3, 2, 1);
    }

    private void writeAnything(int length) {
        for (int n = 0; n < length; n++) {
            int operation = 1 + random.nextInt(10);
            int a = random.nextInt(4);
            long b = operation == 7 ? random.nextInt(length + 1) : random.nextInt(4);
            instruction(operation == 9 && random.nextInt(4) > 0 ? 3 : operation, a, b);
        }
    }
}
