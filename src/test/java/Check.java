/** Counts answers that are not as due; a test ends with exit code 1 if there was one. */
final class Check {
    interface Call {
        void go();
    }

    private static final long TIME_LIMIT = 600_000;

    private final String test;
    private volatile String about = "";
    private int looked;
    private int wrong;

    Check(String test) {
        this.test = test;
        Thread clock = new Thread(this::giveUp);
        clock.setDaemon(true);
        clock.start();
    }

    /** No call may fail to end: a test that takes some fifty times as long as it should has found one. */
    private void giveUp() {
        try {
            Thread.sleep(TIME_LIMIT);
        } catch (InterruptedException e) {
            return;
        }
        System.out.println(test + ": no end in sight; it was at " + about);
        Runtime.getRuntime().halt(1);
    }

    /** The document's words that the answers looked at from here on keep or break. */
    void sentence(String words) {
        about = "\"" + words + "\": ";
    }

    void due(String call, long got, long want) {
        due(call, "" + got, "" + want);
    }

    void due(String call, boolean got, boolean want) {
        due(call, "" + got, "" + want);
    }

    void due(String call, String got, String want) {
        looked++;
        if (!got.equals(want)) {
            wrong++;
            System.out.println(test + ": " + about + call + " answered " + got + ", due is " + want);
        }
    }

    void badArgument(String call, Call body) {
        due(call + " throws", thrownBy(body), "IllegalArgumentException");
    }

    void badState(String call, Call body) {
        due(call + " throws", thrownBy(body), "IllegalStateException");
    }

    void fine(String call, Call body) {
        due(call + " throws", thrownBy(body), "nothing");
    }

    static String thrownBy(Call body) {
        try {
            body.go();
            return "nothing";
        } catch (RuntimeException e) {
            return e.getClass().getSimpleName();
        }
    }

    boolean isClean() {
        return wrong == 0;
    }

    void finish() {
        System.out.println(test + ": " + looked + " answers looked at, " + wrong + " not as due");
        if (wrong != 0 || looked == 0) {
            System.exit(1);
        }
    }
}
