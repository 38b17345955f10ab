import java.util.function.Consumer;

/** New objects with many weaves, for what must come out alike in all of them. */
final class Weaves {
    private static final int[] WORKERS = {1, 2, 3, 4, 7, 15, 16};
    private static final int[] LENGTHS = {1, 30};
    /** Even and uneven turns, workers who stand still for long, workers who begin late. */
    static final long[] WORDS = {
        0L, -1L, 0x1111111111111111L, 0x0123456789ABCDEFL, 0xFEDCBA9876543210L,
        0x0123012301230123L, 0x0101010101010101L, 0x0111111111111111L, 0x1111111111111110L,
        0x0222222222222221L, 0x0001000200030004L, 0x012222222222222FL
    };

    private Weaves() {
    }

    /** Each test has 470 calls of an object that has had at most 30. */
    static void inEach(Consumer<VersionedBlock> test) {
        for (int workers : WORKERS) {
            Check.in("by " + workers + ", no weave: ");
            test.accept(new VersionedBlock(workers));
            for (long word : WORDS) {
                for (int length : LENGTHS) {
                    Check.in("by " + workers + ", " + length + " x " + Long.toHexString(word) + ": ");
                    test.accept(woven(workers, word, length));
                }
            }
        }
    }

    private static VersionedBlock woven(int workers, long word, int length) {
        VersionedBlock x = new VersionedBlock(workers);
        for (int n = 0; n < length; n++) {
            x.weave(word);
        }
        return x;
    }
}
