/** Counts what is checked, and prints every answer that is not the one that is due. */
final class Checks {
    private static int made = 0;
    private static int wrong = 0;

    private Checks() {
    }

    static void due(String call, Object got, Object want) {
        made++;
        if (!got.equals(want)) {
            wrong++;
            System.out.println(call + " answered " + got + ", due is " + want);
        }
    }

    static void refused(String call, Runnable action) {
        due(call, outcome(action), "IllegalArgumentException");
    }

    private static String outcome(Runnable action) {
        try {
            action.run();
            return "nothing thrown";
        } catch (RuntimeException e) {
            return e.getClass().getSimpleName();
        }
    }

    /** To be called last: a test that checked nothing has failed too. */
    static void end() {
        System.out.println(made + " answers checked, " + wrong + " wrong");
        if (wrong != 0 || made == 0) {
            System.exit(1);
        }
    }
}
