import java.util.Arrays;

/**
 * A block of transactions over numbered places, done by many workers in any weave: whatever is
 * woven, all comes out as if they were done one after the other.
 *
 * <p>Each worker does its transaction on a draft of its own and runs ahead of the others. The
 * transactions are settled strictly in their order: only then does a draft reach the places, and
 * only if every number that was loaded from the places still stands there. Otherwise the
 * transaction is done anew, now behind all those before it. So the weave decides how much work is
 * done in vain, never what comes out.
 */
public final class VersionedBlock {
    public static final int BAD = -1;
    public static final int NO = -2;
    public static final int FULL = -3;

    private static final int PLACES = 256;
    private static final int REGISTERS = 8;
    private static final int MOST_TRANSACTIONS = 64;
    private static final int MOST_INSTRUCTIONS = 32;
    private static final int MOST_DONE = 300;
    private static final int MOST_WORKERS = 16;
    private static final int MOST_WOVEN = 65536;

    /**
     * A transaction is done at most twice, each time in at most 303 steps (taken, 300 instructions,
     * come to its end, settled); so 606 steps would be enough for one turn behind the weave.
     */
    private static final int MOST_STEPS = 1000;
    /** Every 16 turns behind the weave settle one of 64 transactions; so 1024 would be enough. */
    private static final int MOST_TURNS = 10000;

    private static final int HALT = 0;
    private static final int SET = 1;
    private static final int LOAD = 2;
    private static final int STORE = 3;
    private static final int ADD = 4;
    private static final int SUBTRACT = 5;
    private static final int MULTIPLY = 6;
    private static final int JUMP = 7;
    private static final int LESS = 8;
    private static final int FAIL = 9;
    private static final int COPY = 10;

    private static final int GOING_ON = 0;
    private static final int HALTED = 1;
    private static final int FAILED = 2;
    private static final int TOO_LONG = 3;

    private static final int TELL_OUTCOME = 0;
    private static final int TELL_DONE = 1;
    private static final int TELL_LOADS = 2;
    private static final int TELL_STORES = 3;

    private final long[] places = new long[PLACES];
    /** Filled from the front when first needed, and used again by later blocks. */
    private final Transaction[] transactions = new Transaction[MOST_TRANSACTIONS];
    /** A worker's drafts are large: it is made when it first has something to do. */
    private final Worker[] team;
    private final Weave woven = new Weave();
    private int size;
    private int taken;
    private int settled;
    private int halted;

    public VersionedBlock(int workers) {
        team = new Worker[Math.max(1, Math.min(MOST_WORKERS, workers))];
    }

    public boolean put(int place, long v) {
        if (!isPlace(place)) {
            return false;
        }
        places[place] = v;
        return true;
    }

    public long get(int place) {
        return isPlace(place) ? places[place] : 0L;
    }

    public int begin() {
        int had = size;
        size = 0;
        return had;
    }

    public int transaction() {
        if (size >= MOST_TRANSACTIONS) {
            return FULL;
        }
        Transaction latest = transactions[size];
        if (latest == null) {
            transactions[size] = new Transaction();
        } else {
            latest.clear();
        }
        size++;
        return size - 1;
    }

    public int instruction(int operation, int a, long b) {
        if (operation < HALT || operation > COPY) {
            return BAD;
        }
        Transaction latest = transactionAt(size - 1);
        return latest == null ? NO : latest.append(operation, a, b);
    }

    public int weave(long bits) {
        return woven.append(bits);
    }

    public int unweave() {
        return woven.clear();
    }

    public int execute() {
        taken = 0;
        settled = 0;
        halted = 0;
        for (int i = 0; i < woven.length() && settled < size; i++) {
            goOn(Math.floorMod(woven.numberAt(i), team.length));
        }
        for (int turn = 0; turn < MOST_TURNS && settled < size; turn++) {
            goOnAsFarAsItCan(Math.floorMod(turn, team.length));
        }
        return halted;
    }

    public int count() {
        return size;
    }

    public int told(int t, int what) {
        Transaction asked = transactionAt(t);
        return asked == null ? BAD : asked.tell(what);
    }

    public long result(int t) {
        Transaction asked = transactionAt(t);
        return asked == null ? 0L : asked.tellResult();
    }

    private static boolean isPlace(int place) {
        return place >= 0 && place < PLACES;
    }

    private static int placeOf(long number) {
        return (int) (number & (PLACES - 1));
    }

    private static int registerOf(long number) {
        return (int) (number & (REGISTERS - 1));
    }

    /** Null when the block has no such transaction. */
    private Transaction transactionAt(int t) {
        return t >= 0 && t < size && t < MOST_TRANSACTIONS ? transactions[t] : null;
    }

    /**
     * The document leaves open how far a worker goes on in its turn. Behind the weave this costs
     * least: no worker is asked again and again while it waits for another.
     */
    private void goOnAsFarAsItCan(int w) {
        int before = settled;
        boolean goesOn = true;
        for (int step = 0; step < MOST_STEPS && goesOn && settled == before; step++) {
            goesOn = goOn(w);
        }
    }

    /** One step of a worker; false when it has nothing to do but to wait for others. */
    private boolean goOn(int w) {
        Worker worker = team[w];
        if (worker == null || worker.isFree()) {
            return takeNext(w);
        }
        if (!worker.isAtEnd()) {
            worker.doNext(places);
            return true;
        }
        if (worker.number() != settled) {
            return false;
        }
        settle(worker);
        return true;
    }

    private boolean takeNext(int w) {
        Transaction next = transactionAt(taken);
        if (next == null) {
            return false;
        }
        Worker worker = team[w];
        if (worker == null) {
            worker = new Worker();
            team[w] = worker;
        }
        worker.take(next, taken);
        taken++;
        return true;
    }

    private void settle(Worker worker) {
        if (!worker.sawWhatHolds(places)) {
            worker.startAnew();
            return;
        }
        if (worker.handIn(places)) {
            halted++;
        }
        settled++;
    }

    /** A row of instructions, and what is told of it since it was last done. */
    private static final class Transaction {
        private final int[] operations = new int[MOST_INSTRUCTIONS];
        private final int[] firsts = new int[MOST_INSTRUCTIONS];
        private final long[] seconds = new long[MOST_INSTRUCTIONS];
        private int length;
        private boolean known;
        private int outcome;
        private int done;
        private int loads;
        private int stores;
        private long lastResult;

        void clear() {
            length = 0;
            known = false;
        }

        int append(int operation, int a, long b) {
            if (length >= MOST_INSTRUCTIONS) {
                return FULL;
            }
            operations[length] = operation;
            firsts[length] = a;
            seconds[length] = b;
            length++;
            known = false;
            return length;
        }

        /** Asked with a long, as a jump may lead anywhere. */
        boolean has(long at) {
            return at >= 0 && at < length && at < MOST_INSTRUCTIONS;
        }

        int operationAt(int at) {
            return has(at) ? operations[at] : HALT;
        }

        int firstAt(int at) {
            return has(at) ? firsts[at] : 0;
        }

        long secondAt(int at) {
            return has(at) ? seconds[at] : 0L;
        }

        void note(int newOutcome, int newDone, int newLoads, int newStores, long newResult) {
            known = true;
            outcome = newOutcome;
            done = newDone;
            loads = newLoads;
            stores = newStores;
            lastResult = newResult;
        }

        int tell(int what) {
            if (what < TELL_OUTCOME || what > TELL_STORES) {
                return BAD;
            }
            if (!known) {
                return NO;
            }
            switch (what) {
                case TELL_OUTCOME:
                    return outcome;
                case TELL_DONE:
                    return done;
                case TELL_LOADS:
                    return loads;
                default:
                    return stores;
            }
        }

        long tellResult() {
            return known ? lastResult : 0L;
        }
    }

    /** Does one transaction at a time, on a draft that nobody else sees. */
    private static final class Worker {
        private static final int NOWHERE = -1;

        private final long[] registers = new long[REGISTERS];
        private final Draft seen = new Draft();
        private final Draft stored = new Draft();
        private Transaction task;
        private int taskNumber;
        private int next;
        private int done;
        private int loads;
        private int outcome;

        boolean isFree() {
            return task == null;
        }

        boolean isAtEnd() {
            return outcome != GOING_ON;
        }

        int number() {
            return taskNumber;
        }

        void take(Transaction newTask, int number) {
            task = newTask;
            taskNumber = number;
            startAnew();
        }

        void startAnew() {
            Arrays.fill(registers, 0L);
            seen.clear();
            stored.clear();
            next = 0;
            done = 0;
            loads = 0;
            outcome = GOING_ON;
        }

        void doNext(long[] places) {
            Transaction mine = task;
            if (mine == null || !mine.has(next)) {
                outcome = HALTED;
            } else if (done >= MOST_DONE) {
                outcome = TOO_LONG;
            } else {
                int at = next;
                next++;
                done++;
                perform(mine, at, places);
            }
        }

        private void perform(Transaction mine, int at, long[] places) {
            long second = mine.secondAt(at);
            int a = registerOf(mine.firstAt(at));
            int b = registerOf(second);
            switch (mine.operationAt(at)) {
                case SET:
                    registers[a] = second;
                    break;
                case LOAD:
                    registers[a] = load(placeOf(registers[b]), places);
                    break;
                case STORE:
                    stored.keep(placeOf(registers[b]), registers[a]);
                    break;
                case ADD:
                    registers[a] += registers[b];
                    break;
                case SUBTRACT:
                    registers[a] -= registers[b];
                    break;
                case MULTIPLY:
                    registers[a] *= registers[b];
                    break;
                case JUMP:
                    if (registers[a] != 0L) {
                        next = mine.has(second) ? (int) second : NOWHERE;
                    }
                    break;
                case LESS:
                    registers[a] = registers[a] < registers[b] ? 1L : 0L;
                    break;
                case COPY:
                    registers[a] = registers[b];
                    break;
                case FAIL:
                    outcome = FAILED;
                    break;
                default:
                    outcome = HALTED;
                    break;
            }
        }

        /** A place seen once is not looked at again, so that there is one number to hold true. */
        private long load(int place, long[] places) {
            loads++;
            if (stored.has(place)) {
                return stored.numberIn(place);
            }
            if (!seen.has(place)) {
                seen.keep(place, places[place]);
            }
            return seen.numberIn(place);
        }

        boolean sawWhatHolds(long[] places) {
            for (int i = 0; i < seen.size(); i++) {
                int place = seen.placeAt(i);
                if (seen.numberIn(place) != places[place]) {
                    return false;
                }
            }
            return true;
        }

        /** Tells the transaction how it went and is free again; true when it has halted. */
        boolean handIn(long[] places) {
            Transaction mine = task;
            task = null;
            boolean hasHalted = outcome == HALTED;
            int stores = hasHalted ? storeInto(places) : 0;
            if (mine != null) {
                mine.note(outcome, done, loads, stores, outcome == TOO_LONG ? 0L : registers[0]);
            }
            return hasHalted;
        }

        private int storeInto(long[] places) {
            for (int i = 0; i < stored.size(); i++) {
                int place = stored.placeAt(i);
                places[place] = stored.numberIn(place);
            }
            return stored.size();
        }
    }

    /**
     * Numbers for some of the places; a list of these makes it cheap to go over and to clear. It
     * looks at each place itself, without isPlace, so that calls stay at most seven deep.
     */
    private static final class Draft {
        private final long[] numbers = new long[PLACES];
        private final boolean[] kept = new boolean[PLACES];
        private final int[] order = new int[PLACES];
        private int length;

        void clear() {
            for (int i = 0; i < length; i++) {
                kept[order[i]] = false;
            }
            length = 0;
        }

        int size() {
            return length;
        }

        int placeAt(int i) {
            return i >= 0 && i < length ? order[i] : 0;
        }

        boolean has(int place) {
            return place >= 0 && place < PLACES && kept[place];
        }

        long numberIn(int place) {
            return place >= 0 && place < PLACES ? numbers[place] : 0L;
        }

        void keep(int place, long number) {
            if (place < 0 || place >= PLACES) {
                return;
            }
            if (!kept[place] && length < PLACES) {
                kept[place] = true;
                order[length] = place;
                length++;
            }
            numbers[place] = number;
        }
    }

    /** The numbers of the weave, sixteen to a word, the first one highest. */
    private static final class Weave {
        private static final int IN_A_WORD = 16;
        private static final int BITS = 4;
        private static final int FIRST_WORDS = 8;

        private long[] words = new long[FIRST_WORDS];
        private int length;

        int append(long bits) {
            if (length + IN_A_WORD > MOST_WOVEN) {
                return FULL;
            }
            int word = length / IN_A_WORD;
            if (word >= words.length) {
                words = Arrays.copyOf(words, 2 * words.length);
            }
            words[word] = bits;
            length += IN_A_WORD;
            return length;
        }

        int clear() {
            int had = length;
            length = 0;
            return had;
        }

        int length() {
            return length;
        }

        int numberAt(int i) {
            if (i < 0 || i >= length) {
                return 0;
            }
            int behind = IN_A_WORD - 1 - i % IN_A_WORD;
            return (int) (words[i / IN_A_WORD] >>> (behind * BITS)) & (MOST_WORKERS - 1);
        }
    }
}
