import java.lang.reflect.Array;
import java.lang.reflect.Field;

/**
 * Which worker goes on. No answer of the class can tell, as the document has it; so this test alone
 * looks inside: a worker is made when it first takes a transaction, and knows the number of its latest.
 */
public final class WorkersTest {
    private static final int NOBODY = -1;

    public static void main(String[] args) {
        Check.sentence("So many workers (brought to 1 .. 16)", WorkersTest::broughtTo1To16);
        Check.sentence("numbers 0 .. 15", WorkersTest::numbers0To15);
        Check.sentence("four bits each, from the highest on", WorkersTest::fromTheHighestOn);
        Check.sentence("come behind the weave", WorkersTest::comeBehindTheWeave);
        Check.sentence("each one for a WORKER (modulo how many there are)", WorkersTest::moduloHowManyThereAre);
        Check.sentence("it is used from its beginning by each execute()", WorkersTest::fromItsBeginning);
        Check.sentence("behind its end the workers go on in turn", WorkersTest::inTurn);
        Check.sentence("unweave: The weave is empty", WorkersTest::nothingOfAnOlderWeave);
        Check.end();
    }

    private static Object inside(Object of, String name) {
        try {
            Field field = of.getClass().getDeclaredField(name);
            field.setAccessible(true);
            return field.get(of);
        } catch (ReflectiveOperationException changed) {
            throw new IllegalStateException("this test must follow the class: " + changed);
        }
    }

    private static int team(VersionedBlock x) {
        return Array.getLength(inside(x, "team"));
    }

    private static int latestOf(VersionedBlock x, int worker) {
        Object asked = Array.get(inside(x, "team"), worker);
        return asked == null ? NOBODY : (int) inside(asked, "taskNumber");
    }

    /** All that was taken was taken by this worker. */
    private static void dueAlone(String name, VersionedBlock x, int worker) {
        for (int w = 0; w < team(x); w++) {
            Check.due(name + ": the latest of worker " + w, latestOf(x, w), w == worker ? 0 : NOBODY);
        }
    }

    private static void broughtTo1To16() {
        int[] asked = {Integer.MIN_VALUE, -1, 0, 1, 2, 15, 16, 17, 32, Integer.MAX_VALUE};
        int[] due = {1, 1, 1, 1, 2, 15, 16, 16, 16, 16};
        for (int i = 0; i < asked.length; i++) {
            Check.due("workers for " + asked[i], team(new VersionedBlock(asked[i])), due[i]);
        }
    }

    private static void numbers0To15() {
        for (int number = 0; number < 16; number++) {
            VersionedBlock x = new VersionedBlock(16);
            x.transaction();
            x.weave(0x1111111111111111L * number);
            x.execute();
            dueAlone("number " + number, x, number);
        }
    }

    private static void fromTheHighestOn() {
        VersionedBlock up = new VersionedBlock(16);
        VersionedBlock down = new VersionedBlock(16);
        up.weave(0x0123456789ABCDEFL);
        down.weave(0xFEDCBA9876543210L);
        for (int t = 0; t < 16; t++) {
            up.transaction();
            down.transaction();
        }
        up.execute();
        down.execute();
        for (int w = 0; w < 16; w++) {
            Check.due("upwards, the latest of worker " + w, latestOf(up, w), w);
            Check.due("downwards, the latest of worker " + w, latestOf(down, w), 15 - w);
        }
    }

    /** Worker 2 is not at its end behind sixteen numbers: so the next one is for worker 5. */
    private static void comeBehindTheWeave() {
        VersionedBlock x = new VersionedBlock(6);
        Programs.writeRounds(x, 50);
        x.transaction();
        x.weave(0x2222222222222222L);
        x.weave(0x5555555555555555L);
        x.execute();
        for (int w = 0; w < 6; w++) {
            Check.due("the latest of worker " + w, latestOf(x, w), w == 2 ? 0 : w == 5 ? 1 : NOBODY);
        }
    }

    private static void moduloHowManyThereAre() {
        for (int workers = 1; workers <= 16; workers++) {
            for (int number = 0; number < 16; number++) {
                VersionedBlock x = new VersionedBlock(workers);
                x.transaction();
                x.weave(0x1111111111111111L * number);
                x.execute();
                dueAlone(number + " of " + workers, x, number % workers);
            }
        }
    }

    private static void fromItsBeginning() {
        VersionedBlock x = new VersionedBlock(16);
        x.transaction();
        x.weave(0x3555555555555555L);
        for (int n = 0; n < 20; n++) {
            x.execute();
            dueAlone("execute() " + n, x, 3);
        }
    }

    private static void inTurn() {
        VersionedBlock none = new VersionedBlock(5);
        for (int t = 0; t < 5; t++) {
            Programs.writeAdding(none, 1, 1);
        }
        none.execute();
        for (int w = 0; w < 5; w++) {
            Check.due("no weave, the latest of worker " + w, latestOf(none, w), w);
        }
        VersionedBlock woven = new VersionedBlock(4);
        Programs.writeRounds(woven, 50);
        Programs.writeRounds(woven, 50);
        woven.weave(0x3333333333333333L);
        woven.execute();
        Check.due("woven, the latest of worker 3", latestOf(woven, 3), 0);
        Check.due("behind the weave, the latest of worker 0", latestOf(woven, 0), 1);
    }

    private static void nothingOfAnOlderWeave() {
        VersionedBlock x = new VersionedBlock(16);
        x.transaction();
        x.weave(0x7777777777777777L);
        x.weave(0x8888888888888888L);
        x.unweave();
        x.weave(0x9999999999999999L);
        x.execute();
        dueAlone("woven again", x, 9);
        VersionedBlock y = new VersionedBlock(16);
        y.transaction();
        y.weave(0x7777777777777777L);
        y.unweave();
        y.execute();
        dueAlone("not woven again", y, 0);
    }
}
