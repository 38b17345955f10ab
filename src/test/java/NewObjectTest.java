/** Promise 1: a new object. */
public final class NewObjectTest {
    private static final int[] WORKERS = {
        Integer.MIN_VALUE, -1, 0, 1, 2, 3, 7, 15, 16, 17, 100, Integer.MAX_VALUE
    };

    public static void main(String[] args) {
        Check.due("BAD", VersionedBlock.BAD, -1);
        Check.due("NO", VersionedBlock.NO, -2);
        Check.due("FULL", VersionedBlock.FULL, -3);
        for (int workers : WORKERS) {
            isEmpty(workers);
            doesBlocks(workers);
        }
        objectsAreApart();
        Check.end();
    }

    private static void isEmpty(int workers) {
        VersionedBlock x = new VersionedBlock(workers);
        for (int place = 0; place < 256; place++) {
            Check.due("get(" + place + ")", x.get(place), 0);
        }
        Check.due("count()", x.count(), 0);
        Check.due("told(0, 0)", x.told(0, 0), VersionedBlock.BAD);
        Check.due("result(0)", x.result(0), 0);
        Check.due("execute()", x.execute(), 0);
        Check.due("begin()", x.begin(), 0);
        Check.due("unweave()", x.unweave(), 0);
    }

    private static void doesBlocks(int workers) {
        VersionedBlock x = new VersionedBlock(workers);
        for (int t = 0; t < 40; t++) {
            Programs.writeAdding(x, 9, t);
        }
        x.weave(0x0123456789ABCDEFL);
        Check.due("execute() by " + workers, x.execute(), 40);
        Check.due("get(9) by " + workers, x.get(9), 780);
    }

    private static void objectsAreApart() {
        VersionedBlock x = new VersionedBlock(3);
        VersionedBlock y = new VersionedBlock(3);
        x.put(1, 5);
        x.transaction();
        x.weave(1);
        Check.due("get(1) of another", y.get(1), 0);
        Check.due("count() of another", y.count(), 0);
        Check.due("unweave() of another", y.unweave(), 0);
    }
}
