/** Compares answers with those that are due, prints the wrong ones, and ends the program with 1 if there was one. */
final class Checks {
    interface Call {
        long answer();
    }

    private static final Class<?> ARGUMENT = IllegalArgumentException.class;
    private static final Class<?> STATE = IllegalStateException.class;
    private static final Class<?> INDEX = IndexOutOfBoundsException.class;

    private int wrong;
    private int done;

    static long bit(boolean answer) {
        return answer ? 1 : 0;
    }

    /** The answer as a text, or the exception's own class: a machine's subclass of a due one must not pass. */
    static String outcome(Call call) {
        try {
            return Long.toString(call.answer());
        } catch (RuntimeException thrown) {
            return "throws." + thrown.getClass().getSimpleName();
        }
    }

    void due(String what, String want, String got) {
        done++;
        if (!want.equals(got)) {
            wrong++;
            System.out.println(what + " answered " + got + ", due is " + want);
        }
    }

    void due(String what, long want, Call call) {
        due(what, Long.toString(want), outcome(call));
    }

    void yes(String what, boolean got) {
        due(what, "true", Boolean.toString(got));
    }

    void wrongArgument(String what, Call call) {
        due(what, "throws." + ARGUMENT.getSimpleName(), outcome(call));
    }

    void wrongState(String what, Call call) {
        due(what, "throws." + STATE.getSimpleName(), outcome(call));
    }

    void wrongPlace(String what, Call call) {
        due(what, "throws." + INDEX.getSimpleName(), outcome(call));
    }

    int wrong() {
        return wrong;
    }

    int done() {
        return done;
    }

    void end() {
        System.out.println(done + " checks, " + wrong + " wrong");
        if (wrong != 0 || done == 0) {
            System.exit(1);
        }
    }
}
