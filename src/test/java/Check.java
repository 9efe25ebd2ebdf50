/** Compares answers with those that are due, prints each that is not, and ends the test with exit code 1 then. */
final class Check {
    static final String INDEX = "throws.IndexOutOfBoundsException";
    static final String STATE = "throws.IllegalStateException";
    static final String ARGUMENT = "throws.IllegalArgumentException";

    private static int wrong = 0;

    private Check() {
    }

    /** A call whose answer, or the exception that it throws, is told as text. */
    interface Call {
        Object answer();
    }

    interface VoidCall {
        void run();
    }

    static void due(String what, Call call, Object want) {
        String got = told(call);
        if (!got.equals(String.valueOf(want))) {
            wrong++;
            System.out.println(what + " answered " + got + ", due is " + want);
        }
    }

    static void dueNothing(String what, VoidCall call, String want) {
        due(what, () -> {
            call.run();
            return "nothing";
        }, want);
    }

    /** The exception's exact class counts, so that one that the machine throws is never taken for one that is due. */
    static String told(Call call) {
        try {
            return String.valueOf(call.answer());
        } catch (RuntimeException e) {
            return "throws." + e.getClass().getSimpleName();
        }
    }

    static int wrongSoFar() {
        return wrong;
    }

    static void end() {
        if (wrong != 0) {
            System.out.println(wrong + " answers are not as due");
            System.exit(1);
        }
    }
}
