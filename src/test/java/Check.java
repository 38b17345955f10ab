/**
 * Counts the answers that are not as due. A test goes through sentences of the document, one by one,
 * and ends with {@link #end()}.
 */
final class Check {
    private static final long MOST_MILLISECONDS = 300_000;

    private static String sentence = "";
    private static String setting = "";
    private static int sentences = 0;
    private static int asked = 0;
    private static int wrong = 0;

    private Check() {
    }

    /** A sentence of the document, and what fails when it does not hold. */
    static void sentence(String words, Runnable test) {
        if (sentences == 0) {
            watch();
        }
        sentences++;
        sentence = words;
        int before = asked;
        try {
            test.run();
        } catch (RuntimeException | Error thrown) {
            // No call may throw; and what comes behind this sentence is still to be asked.
            fail("threw " + thrown);
        }
        if (asked == before) {
            fail("nothing was asked");
        }
        sentence = "";
        setting = "";
    }

    /** Told with each wrong answer, where a test asks the same in many settings. */
    static void in(String newSetting) {
        setting = newSetting;
    }

    static void due(String call, long got, long want) {
        asked++;
        if (got != want) {
            fail(setting + call + " answered " + got + ", due is " + want);
        }
    }

    static void due(String call, boolean got, boolean want) {
        due(call, got ? 1L : 0L, want ? 1L : 0L);
    }

    static boolean allRight() {
        return wrong == 0;
    }

    static void end() {
        System.out.println(sentences + " sentences, " + asked + " answers, " + wrong + " not as due");
        if (wrong != 0 || asked == 0) {
            System.exit(1);
        }
    }

    private static void fail(String what) {
        wrong++;
        System.out.println("\"" + sentence + "\": " + what);
    }

    /** A call that does not end is a wrong answer, too, and must not keep .ci/run waiting for ever. */
    private static void watch() {
        Thread watcher = new Thread(() -> {
            try {
                Thread.sleep(MOST_MILLISECONDS);
            } catch (InterruptedException ended) {
                return;
            }
            System.out.println("\"" + sentence + "\": " + setting + "does not end");
            Runtime.getRuntime().halt(1);
        });
        watcher.setDaemon(true);
        watcher.start();
    }
}
