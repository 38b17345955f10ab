/** Promises 7 and 8: weave and unweave. */
public final class WeaveTest {
    public static void main(String[] args) {
        countsSixteenACall();
        isKeptByAllElse();
        fills();
        Check.end();
    }

    private static void countsSixteenACall() {
        VersionedBlock x = new VersionedBlock(5);
        Check.due("unweave() of none", x.unweave(), 0);
        long[] bits = {0, -1, Long.MIN_VALUE, Long.MAX_VALUE, 0x0123456789ABCDEFL};
        for (int i = 0; i < bits.length; i++) {
            Check.due("weave(" + bits[i] + ")", x.weave(bits[i]), 16 * (i + 1));
        }
        Check.due("unweave()", x.unweave(), 80);
        Check.due("unweave() again", x.unweave(), 0);
        Check.due("weave() behind unweave", x.weave(3), 16);
    }

    private static void isKeptByAllElse() {
        VersionedBlock x = new VersionedBlock(5);
        x.weave(0x0001112223334445L);
        Programs.writeAdding(x, 1, 1);
        Programs.writeAdding(x, 1, 1);
        x.execute();
        x.execute();
        x.begin();
        Check.due("weave() behind all else", x.weave(1), 32);
        Check.due("unweave() behind all else", x.unweave(), 32);
        Check.due("get(1)", x.get(1), 4);
    }

    /** A weave is full only behind the 512th call, where answers are free: this holds all the same. */
    private static void fills() {
        VersionedBlock x = new VersionedBlock(7);
        Programs.writeAdding(x, 1, 1);
        Programs.writeAdding(x, 1, 1);
        for (int n = 1; n <= 4096; n++) {
            Check.due("weave() " + n, x.weave(0x5555555555555555L * n), 16 * n);
        }
        Check.due("weave() of a full one", x.weave(1), VersionedBlock.FULL);
        Check.due("execute() in a full weave", x.execute(), 2);
        Check.due("get(1)", x.get(1), 2);
        Check.due("unweave() of a full one", x.unweave(), 65536);
        Check.due("weave() behind it", x.weave(1), 16);
    }
}
