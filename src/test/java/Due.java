/** Counts and tells the answers that are not the ones that are due. */
final class Due {
    private static final int MOST_TOLD = 40;
    private static final long MOST_MILLISECONDS = 180_000;
    private static int asked = 0;
    private static int wrong = 0;

    static {
        Thread watch = new Thread(Due::endWhatDoesNotEnd);
        watch.setDaemon(true);
        watch.start();
    }

    private Due() {
    }

    /** A call that never ends would keep the tests waiting instead of failing. */
    private static void endWhatDoesNotEnd() {
        try {
            Thread.sleep(MOST_MILLISECONDS);
        } catch (InterruptedException interrupted) {
            return;
        }
        System.out.println("a call did not end");
        Runtime.getRuntime().halt(1);
    }

    static int asked() {
        return asked;
    }

    static int wrong() {
        return wrong;
    }

    static void due(String call, long got, long want) {
        asked++;
        if (got != want) {
            tell(call + " answered " + got + ", due is " + want);
        }
    }

    static void due(String call, double got, double want) {
        asked++;
        if (Double.compare(got, want) != 0) {
            tell(call + " answered " + got + ", due is " + want);
        }
    }

    static void due(String call, String got, String want) {
        asked++;
        if (!got.equals(want)) {
            tell(call + " answered " + got + ", due is " + want);
        }
    }

    static void tell(String fault) {
        wrong++;
        if (wrong <= MOST_TOLD) {
            System.out.println(fault);
        }
    }

    static void end(String name) {
        System.out.println(name + ": " + asked + " answers, " + wrong + " not as due");
        if (wrong > 0 || asked == 0) {
            System.exit(1);
        }
    }
}
