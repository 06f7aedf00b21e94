/** What the tests share: it counts checks, and prints each answer that is not the one that is due. */
final class Checks {
    private static int made = 0;
    private static int wrong = 0;
    private static String about = "";

    private static final long MOST_SECONDS = 300;

    static {
        Thread watch = new Thread(Checks::endIfLate);
        watch.setDaemon(true);
        watch.start();
    }

    private Checks() {
    }

    /** A call that never ends is to fail the tests, not to keep them waiting. */
    private static void endIfLate() {
        try {
            Thread.sleep(MOST_SECONDS * 1000);
            System.out.println("not at its end after " + MOST_SECONDS + " seconds, " + about);
            Runtime.getRuntime().halt(1);
        } catch (InterruptedException e) {
            Thread.currentThread().interrupt();
        }
    }

    static void due(String call, long got, long want) {
        made++;
        if (got != want) {
            complain(call + " answered " + got + ", due is " + want);
        }
    }

    static void due(String call, boolean got, boolean want) {
        due(call, got ? 1 : 0, want ? 1 : 0);
    }

    static void due(String call, Object got, Object want) {
        made++;
        if (!got.equals(want)) {
            complain(call + " answered " + got + ", due is " + want);
        }
    }

    /** What the next checks are about is printed ahead of each complaint. */
    static void about(String text) {
        about = text.isEmpty() ? "" : text + ": ";
    }

    static int made() {
        return made;
    }

    static int wrong() {
        return wrong;
    }

    /** Exactly the exception that is due: one of a class below it would not do. */
    static void throwsDue(String call, Class<? extends RuntimeException> want, Runnable body) {
        made++;
        try {
            body.run();
            complain(call + " threw nothing, due is " + want.getSimpleName());
        } catch (RuntimeException e) {
            if (e.getClass() != want) {
                complain(call + " threw " + e.getClass().getName() + ", due is " + want.getSimpleName());
            }
        }
    }

    static void complain(String text) {
        wrong++;
        if (wrong <= 40) {
            System.out.println(about + text);
        }
    }

    static void end() {
        System.out.println(made + " checks, " + wrong + " wrong");
        if (wrong != 0 || made == 0) {
            System.exit(1);
        }
    }
}
