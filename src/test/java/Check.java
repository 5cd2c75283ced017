/** Counts answers that are not the ones that are due, and tells each. */
final class Check {
    private static int asked = 0;
    private static int wrong = 0;
    private static volatile String where = "";

    private Check() {
    }

    /** What is asked from here on is told with this in front of it. */
    static void at(String place) {
        where = place.isEmpty() ? "" : place + ": ";
    }

    static void due(String what, long got, long want) {
        asked++;
        if (got != want) {
            wrong++;
            System.out.println(where + what + " answered " + got + ", due is " + want);
        }
    }

    static void due(String what, String got, String want) {
        asked++;
        if (!got.equals(want)) {
            wrong++;
            System.out.println(where + what + " answered '" + got + "', due is '" + want + "'");
        }
    }

    static void holds(String what, boolean so) {
        asked++;
        if (!so) {
            wrong++;
            System.out.println(where + "not so: " + what);
        }
    }

    static int asked() {
        return asked;
    }

    static int wrong() {
        return wrong;
    }

    /** A call that does not end is wrong, too; it must not keep CI waiting. */
    static void mustEndWithin(int seconds) {
        Thread watch = new Thread(() -> {
            try {
                Thread.sleep(seconds * 1000L);
            } catch (InterruptedException stopped) {
                return;
            }
            System.out.println(where + "no end after " + seconds + " seconds");
            Runtime.getRuntime().halt(1);
        });
        watch.setDaemon(true);
        watch.start();
    }

    /** Ends the test: code 1 if an answer was wrong, or if nothing was asked at all. */
    static void end(String name) {
        System.out.println(name + ": " + asked + " asked, " + wrong + " wrong");
        System.exit(wrong == 0 && asked > 0 ? 0 : 1);
    }
}
