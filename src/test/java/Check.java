/** Compares answers with what is due and ends a test with exit code 1 if one was wrong. */
final class Check {
    private static int made = 0;
    private static int wrong = 0;

    /** A call whose answer or exception is looked at. */
    interface Call {
        int answer();
    }

    /** A call without an answer, whose exception is looked at. */
    interface Deed {
        void happen();
    }

    private Check() {
    }

    static void same(String what, long got, long due) {
        made++;
        if (got != due) {
            wrong++;
            System.out.println(what + ": got " + got + ", due is " + due);
        }
    }

    static void same(String what, String got, String due) {
        made++;
        if (!got.equals(due)) {
            wrong++;
            System.out.println(what + ": got " + got + ", due is " + due);
        }
    }

    static void refuses(String what, Class<? extends RuntimeException> due, Deed deed) {
        same(what, outcome(() -> {
            deed.happen();
            return 0;
        }), "throws." + due.getSimpleName());
    }

    static String outcome(Call call) {
        try {
            return Integer.toString(call.answer());
        } catch (RuntimeException e) {
            return "throws." + e.getClass().getSimpleName();
        }
    }

    static void finish() {
        System.out.println(made + " answers looked at, " + wrong + " wrong");
        if (wrong != 0 || made == 0) {
            System.exit(1);
        }
    }
}
