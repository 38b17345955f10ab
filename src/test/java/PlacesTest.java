/** Promises 2 and 3, put and get, and the places of the terms. */
public final class PlacesTest {
    private static final int[] NO_PLACES = {
        -1, -2, -255, -256, 256, 257, 511, 512, 65536, Integer.MIN_VALUE, Integer.MIN_VALUE + 1,
        Integer.MAX_VALUE
    };
    private static final long[] NUMBERS = {
        Long.MIN_VALUE, Long.MAX_VALUE, -1, 0, 1, 1L << 32, -(1L << 32), (1L << 53) + 1
    };

    public static void main(String[] args) {
        Check.sentence("PLACES 0 .. 255 hold numbers", PlacesTest::eachPlaceHoldsItsOwn);
        Check.sentence("numbers of 64 bits", PlacesTest::numbersOf64Bits);
        Check.sentence("at first 0", PlacesTest::atFirstZero);
        Check.sentence("put: A place gets a number: true", PlacesTest::aPlaceGetsANumber);
        Check.sentence("put: false when there is no such place", PlacesTest::putElsewhereIsFalse);
        Check.sentence("get: What a place holds", PlacesTest::getIsWhatAPlaceHolds);
        Check.sentence("get: 0 when there is no such place", PlacesTest::getElsewhereIsZero);
        Check.end();
    }

    private static void eachPlaceHoldsItsOwn() {
        VersionedBlock x = filled();
        for (int place = 0; place < 256; place++) {
            Check.due("get(" + place + ")", x.get(place), 1000L + place);
        }
    }

    private static VersionedBlock filled() {
        VersionedBlock x = new VersionedBlock(2);
        for (int place = 0; place < 256; place++) {
            Check.due("put(" + place + ")", x.put(place, 1000L + place), true);
        }
        return x;
    }

    private static void numbersOf64Bits() {
        VersionedBlock x = new VersionedBlock(2);
        for (long v : NUMBERS) {
            Check.due("put(255, " + v + ")", x.put(255, v), true);
            Check.due("get(255)", x.get(255), v);
            Check.due("put(0, " + v + ")", x.put(0, v), true);
            Check.due("get(0)", x.get(0), v);
        }
    }

    private static void atFirstZero() {
        VersionedBlock x = new VersionedBlock(2);
        for (int place = 0; place < 256; place++) {
            Check.due("get(" + place + ")", x.get(place), 0);
        }
        Programs.writeLoading(x, 0);
        Programs.writeLoading(x, 255);
        x.execute();
        Check.due("result(0) of loading place 0", x.result(0), 0);
        Check.due("result(1) of loading place 255", x.result(1), 0);
    }

    private static void aPlaceGetsANumber() {
        VersionedBlock x = new VersionedBlock(2);
        Check.due("put(0, 5)", x.put(0, 5), true);
        Check.due("put(255, 6)", x.put(255, 6), true);
        Check.due("put(0, 7), another number", x.put(0, 7), true);
        Check.due("put(0, 7), the same number", x.put(0, 7), true);
        Check.due("get(0)", x.get(0), 7);
        Check.due("get(255)", x.get(255), 6);
        Programs.writeAdding(x, 0, 10);
        Check.due("execute()", x.execute(), 1);
        Check.due("put(0, 100) behind execute", x.put(0, 100), true);
        Programs.dueTold("behind put", x, 0, 1, 5, 1, 1, 17);
        Check.due("execute()", x.execute(), 1);
        Check.due("get(0) behind both", x.get(0), 110);
    }

    private static void putElsewhereIsFalse() {
        VersionedBlock x = new VersionedBlock(2);
        for (int place : NO_PLACES) {
            Check.due("put(" + place + ", 77)", x.put(place, 77), false);
        }
        for (int place = 0; place < 256; place++) {
            Check.due("get(" + place + ") behind refused ones", x.get(place), 0);
        }
    }

    private static void getIsWhatAPlaceHolds() {
        VersionedBlock x = new VersionedBlock(2);
        x.put(0, 3);
        Programs.writeStoring(x, 0, 4);
        Programs.writeStoring(x, 255, 5);
        Check.due("get(0) of what was put", x.get(0), 3);
        Check.due("get(0) again", x.get(0), 3);
        x.execute();
        Check.due("get(0) of what was stored", x.get(0), 4);
        Check.due("get(255) of what was stored", x.get(255), 5);
        Check.due("get(1) beside it", x.get(1), 0);
        Check.due("get(254) beside it", x.get(254), 0);
    }

    private static void getElsewhereIsZero() {
        VersionedBlock x = filled();
        for (int place : NO_PLACES) {
            Check.due("get(" + place + ")", x.get(place), 0);
        }
    }
}
