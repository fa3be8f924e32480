/** What the tests have in common: counts and prints the answers that are not as due. */
final class Checks {
    /** One call of the class under test. */
    interface Call {
        long answer();
    }

    private static int wrong = 0;
    private static int asked = 0;

    private Checks() {
    }

    static void due(String what, long want, Call call) {
        told(what, Long.toString(want), outcome(call));
    }

    static void due(String what, boolean want, boolean got) {
        told(what, Boolean.toString(want), Boolean.toString(got));
    }

    static void illegalArgument(String what, Call call) {
        told(what, "throws.IllegalArgumentException", outcome(call));
    }

    static void illegalState(String what, Call call) {
        told(what, "throws.IllegalStateException", outcome(call));
    }

    /** The answer, or the very class of what is thrown, so that one that lies below it doesn't pass. */
    static String outcome(Call call) {
        try {
            return Long.toString(call.answer());
        } catch (Throwable thrown) {
            return "throws." + thrown.getClass().getSimpleName();
        }
    }

    static void told(String what, String want, String got) {
        asked++;
        if (!want.equals(got)) {
            wrong++;
            System.out.println(what + " answered " + got + ", due is " + want);
        }
    }

    static void end() {
        System.out.println(asked + " answers, " + wrong + " not as due");
        if (wrong != 0) {
            System.exit(1);
        }
    }
}
