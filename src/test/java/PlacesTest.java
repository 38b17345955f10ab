/** Promises 2 and 3: put and get. */
public final class PlacesTest {
    private static final int[] NO_PLACES = {
        -1, -2, -255, -256, 256, 257, 511, 512, 65536, Integer.MIN_VALUE, Integer.MAX_VALUE
    };

    public static void main(String[] args) {
        VersionedBlock x = new VersionedBlock(2);
        everyPlaceHoldsItsOwn(x);
        noOtherPlaces(x);
        numbersOf64Bits(x);
        putLeavesWhatIsTold();
        Check.end();
    }

    private static void everyPlaceHoldsItsOwn(VersionedBlock x) {
        for (int place = 0; place < 256; place++) {
            Check.due("put(" + place + ")", x.put(place, 1000L + place), true);
        }
        for (int place = 0; place < 256; place++) {
            Check.due("get(" + place + ")", x.get(place), 1000L + place);
        }
    }

    private static void noOtherPlaces(VersionedBlock x) {
        for (int place : NO_PLACES) {
            Check.due("put(" + place + ", 77)", x.put(place, 77), false);
            Check.due("get(" + place + ")", x.get(place), 0);
        }
        for (int place = 0; place < 256; place++) {
            Check.due("get(" + place + ") behind wrong ones", x.get(place), 1000L + place);
        }
    }

    private static void numbersOf64Bits(VersionedBlock x) {
        long[] numbers = {Long.MIN_VALUE, Long.MAX_VALUE, -1, 0, 1L << 32, 1};
        for (long v : numbers) {
            Check.due("put(255, " + v + ")", x.put(255, v), true);
            Check.due("get(255)", x.get(255), v);
        }
    }

    private static void putLeavesWhatIsTold() {
        VersionedBlock x = new VersionedBlock(2);
        Programs.writeAdding(x, 4, 10);
        x.execute();
        x.put(4, 100);
        Programs.dueTold("behind put", x, 0, 1, 5, 1, 1, 10);
        x.execute();
        Check.due("get(4) of the second doing", x.get(4), 110);
        Check.due("begin()", x.begin(), 1);
        Check.due("get(4) behind begin", x.get(4), 110);
    }
}
