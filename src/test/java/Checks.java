/** Counts what is not as due; every test of the project ends with {@link #finish}. */
final class Checks {
    static final String RANGE = "IllegalArgumentException";
    static final String INDEX = "IndexOutOfBoundsException";
    static final String STATE = "IllegalStateException";

    /** A call whose answer, or exception, is looked at. */
    interface Call {
        long answer();
    }

    private static int looked = 0;
    private static int wrong = 0;

    private Checks() {
    }

    static void due(String what, long got, long want) {
        tell(what, Long.toString(got), Long.toString(want));
    }

    static void dueTrue(String what, boolean got) {
        tell(what, Boolean.toString(got), "true");
    }

    static void dueThrown(String what, String exception, Call call) {
        tell(what, answerOf(call), exception);
    }

    /** The answer as a text, or the simple name of what is thrown. */
    static String answerOf(Call call) {
        try {
            return Long.toString(call.answer());
        } catch (RuntimeException thrown) {
            return thrown.getClass().getSimpleName();
        }
    }

    static void tell(String what, String got, String want) {
        looked++;
        if (!got.equals(want)) {
            wrong++;
            if (wrong <= 50) {
                System.out.println(what + " answered " + got + ", due is " + want);
            }
        }
    }

    static void finish(String test) {
        System.out.println(test + ": " + looked + " answers, " + wrong + " not as due");
        if (wrong != 0 || looked == 0) {
            System.exit(1);
        }
    }
}
