/** What the tests have in common: counts and prints the answers that are not as due. */
final class Checks {
    /** One call of the class under test. */
    interface Call {
        long answer();
    }

    /** A call with one of its numbers left open. */
    interface CallWith {
        long answer(int number);
    }

    private static int wrong = 0;
    private static int asked = 0;
    private static String sentence = "";

    private Checks() {
    }

    /** The promise, and the sentence of the document, that the answers behind it are about. */
    static void about(String promise) {
        sentence = promise + ": ";
    }

    static void due(String what, long want, Call call) {
        told(what, Long.toString(want), outcome(call));
    }

    static void due(String what, boolean want, boolean got) {
        told(what, Boolean.toString(want), Boolean.toString(got));
    }

    static void illegalArgument(String what, Call call) {
        told(what, "throws.IllegalArgumentException", outcome(call));
    }

    static void illegalState(String what, Call call) {
        told(what, "throws.IllegalStateException", outcome(call));
    }

    /** A number's least and greatest value are taken; what lies beside them, and far off, is refused. */
    static void bounds(String number, int least, int greatest, CallWith call) {
        for (int taken : new int[] {least, greatest}) {
            String answer = outcome(() -> call.answer(taken));
            told(number + " " + taken + " is taken", "true", Boolean.toString(!answer.startsWith("throws.")));
        }
        for (int refused : new int[] {least - 1, greatest + 1, Integer.MIN_VALUE, Integer.MAX_VALUE}) {
            illegalArgument(number + " " + refused, () -> call.answer(refused));
        }
    }

    static void desksAre(String what, DeskMoves x, int... desks) {
        for (int p = 0; p < desks.length; p++) {
            int person = p;
            due(what + ": deskOf(" + p + ")", desks[p], () -> x.deskOf(person));
        }
    }

    static void stepIs(String what, DeskMoves x, int k, int person, int from, int to) {
        due(what + ": person of step " + k, person, () -> x.step(k, 0));
        due(what + ": desk left in step " + k, from, () -> x.step(k, 1));
        due(what + ": goal of step " + k, to, () -> x.step(k, 2));
    }

    /** The answer, or the very class of what is thrown, so that one that lies below it doesn't pass. */
    static String outcome(Call call) {
        try {
            return Long.toString(call.answer());
        } catch (Throwable thrown) {
            return "throws." + thrown.getClass().getSimpleName();
        }
    }

    static void told(String what, String want, String got) {
        asked++;
        if (!want.equals(got)) {
            wrong++;
            System.out.println(sentence + what + " answered " + got + ", due is " + want);
        }
    }

    static void end() {
        System.out.println(asked + " answers, " + wrong + " not as due");
        if (wrong != 0) {
            System.exit(1);
        }
    }
}
