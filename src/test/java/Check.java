/** Counts what is not as due, and ends the program with exit code 1 if there was any. */
final class Check {
    interface Call {
        long answer();
    }

    static final String OUTSIDE = "IndexOutOfBoundsException";
    static final String ARGUMENT = "IllegalArgumentException";
    static final String STATE = "IllegalStateException";

    private static int wrong = 0;
    private static int looked = 0;

    private Check() {
    }

    static void due(String what, long want, long got) {
        looked++;
        if (want != got) {
            fault(what + " answered " + got + ", due is " + want);
        }
    }

    static void due(String what, String want, String got) {
        looked++;
        if (!want.equals(got)) {
            fault(what + " answered " + got + ", due is " + want);
        }
    }

    static void due(String what, boolean want, boolean got) {
        due(what, Boolean.toString(want), Boolean.toString(got));
    }

    static void refused(String what, String exception, Call call) {
        due(what, "throws." + exception, outcome(call));
    }

    /** The answer of a call as a text, or the name of what it throws. */
    static String outcome(Call call) {
        try {
            return Long.toString(call.answer());
        } catch (RuntimeException e) {
            return "throws." + e.getClass().getSimpleName();
        }
    }

    static void fault(String text) {
        wrong++;
        if (wrong <= 20) {
            System.out.println(text);
        }
    }

    static void end() {
        System.out.println(looked + " answers looked at, " + wrong + " not as due");
        if (wrong != 0 || looked == 0) {
            System.exit(1);
        }
    }
}
