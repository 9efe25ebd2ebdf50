/** Compares answers with those that are due, prints each that is not, and ends the test with exit code 1 then. */
final class Check {
    static final String INDEX = "throws.IndexOutOfBoundsException";
    static final String STATE = "throws.IllegalStateException";
    static final String ARGUMENT = "throws.IllegalArgumentException";

    private static int wrong = 0;
    private static String sentence = "";

    private Check() {
    }

    /** A call whose answer, or the exception that it throws, is told as text. */
    interface Call {
        Object answer();
    }

    /** Makes an object, the same each time. */
    interface Make {
        DriftLog log();
    }

    interface Ask {
        Object of(DriftLog log);
    }

    /** The sentence of the document that the next answers belong to: it is printed with each that is wrong. */
    static void sentence(String text) {
        sentence = "[" + text + "] ";
    }

    static void due(String what, Call call, Object want) {
        String got = told(call);
        if (!got.equals(String.valueOf(want))) {
            wrong++;
            System.out.println(sentence + what + " answered " + got + ", due is " + want);
        }
    }

    /** What throws or is refused changes nothing: all is as in an equal object that was not asked. */
    static void refused(String what, Make make, Ask ask, Object want) {
        DriftLog log = make.log();
        due(what, () -> ask.of(log), want);
        due("all that there is after " + what, () -> Made.all(log), Made.all(make.log()));
    }

    /** The exception's exact class counts, so that one that the machine throws is never taken for one that is due. */
    static String told(Call call) {
        try {
            return String.valueOf(call.answer());
        } catch (RuntimeException e) {
            return "throws." + e.getClass().getSimpleName();
        }
    }

    static int wrongSoFar() {
        return wrong;
    }

    static void end() {
        if (wrong != 0) {
            System.out.println(wrong + " answers are not as due");
            System.exit(1);
        }
    }
}
