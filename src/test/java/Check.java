/** Compares answers with what is due and ends a test with exit code 1 if one was wrong. */
final class Check {
    private static final int MOST_TOLD = 40;

    private static int made = 0;
    private static int wrong = 0;
    private static String sentence = "";

    /** A call whose answer or exception is looked at. */
    interface Call {
        int answer();
    }

    /** A call without an answer, whose exception is looked at. */
    interface Deed {
        void happen();
    }

    private Check() {
    }

    /** What is wrong from here on is told under this name. */
    static void under(String name) {
        sentence = name;
    }

    static int made() {
        return made;
    }

    static void same(String what, long got, long due) {
        same(what, Long.toString(got), Long.toString(due));
    }

    static void same(String what, String got, String due) {
        made++;
        if (!got.equals(due)) {
            wrong++;
            tell(what + ": got " + got + ", due is " + due);
        }
    }

    private static void tell(String text) {
        if (wrong <= MOST_TOLD) {
            System.out.println(sentence.isEmpty() ? text : sentence + "\n    " + text);
        }
    }

    static void refuses(String what, Class<? extends RuntimeException> due, Deed deed) {
        same(what, outcome(deed), "throws." + due.getSimpleName());
    }

    static String outcome(Deed deed) {
        return outcome(() -> {
            deed.happen();
            return 0;
        });
    }

    static String outcome(Call call) {
        try {
            return Integer.toString(call.answer());
        } catch (RuntimeException e) {
            return "throws." + e.getClass().getSimpleName();
        }
    }

    static void finish() {
        System.out.println(made + " answers looked at, " + wrong + " wrong");
        if (wrong != 0 || made == 0) {
            System.exit(1);
        }
    }
}
