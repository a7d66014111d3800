/** Counts the answers of a test, and tells those that are not the ones that are due. */
final class Due {
    static final int INVALID = -100001;
    static final int NOT_POSSIBLE = -100002;
    static final int LIMIT = -100003;
    static final int NOT_FOUND = -100004;
    private static final long LONGEST_TEST_MILLIS = 120000;

    private final String test;
    private int asked = 0;
    private int wrong = 0;

    Due(String test) {
        this.test = test;
        stopIfItNeverEnds();
    }

    /** A call that does not end is a broken promise too, so it must not hold up the tests for ever. */
    private void stopIfItNeverEnds() {
        Thread watch = new Thread(() -> {
            try {
                Thread.sleep(LONGEST_TEST_MILLIS);
            } catch (InterruptedException e) {
                return;
            }
            System.out.println(test + ": does not end");
            Runtime.getRuntime().halt(1);
        });
        watch.setDaemon(true);
        watch.start();
    }

    void due(String call, int got, int want) {
        asked++;
        if (got != want) {
            wrong++;
            System.out.println(test + ": " + call + " answered " + got + ", due is " + want);
        }
    }

    void holds(String what, boolean held) {
        asked++;
        if (!held) {
            wrong++;
            System.out.println(test + ": does not hold: " + what);
        }
    }

    boolean anyWrong() {
        return wrong > 0;
    }

    void end() {
        System.out.println(test + ": " + asked + " answers, " + wrong + " wrong");
        if (wrong > 0 || asked == 0) {
            System.exit(1);
        }
    }

    /** Types a text, sign by sign. */
    static void write(GlassBowls x, String text) {
        for (int i = 0; i < text.length(); i++) {
            x.type(text.charAt(i));
        }
    }
}
