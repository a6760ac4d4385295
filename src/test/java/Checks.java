/** Counts and prints the answers that are not as due; a test ends with end(). */
final class Checks {
    /** A call whose answer is a number, or a boolean as 1 or 0. */
    interface Call {
        long answer();
    }

    private final String name;
    private String sentence = "";
    private int done = 0;
    private int wrong = 0;

    Checks(String name) {
        this.name = name;
    }

    /** The sentence of the document that the answers from here on are due to. */
    void sentence(String text) {
        sentence = " [" + text + "]";
    }

    void same(String what, long want, long got) {
        same(what, Long.toString(want), Long.toString(got));
    }

    void yes(String what, boolean got) {
        same(what, "true", Boolean.toString(got));
    }

    void no(String what, boolean got) {
        same(what, "false", Boolean.toString(got));
    }

    void same(String what, String want, String got) {
        done++;
        if (!want.equals(got)) {
            wrong++;
            System.out.println(name + ": " + what + " answered " + got + ", due is " + want + sentence);
        }
    }

    void raises(String what, Class<? extends RuntimeException> want, Call call) {
        same(what, want.getSimpleName(), outcome(call));
    }

    /** The answer as a text, or the exact class of what the call throws. */
    static String outcome(Call call) {
        try {
            return Long.toString(call.answer());
        } catch (RuntimeException e) {
            return e.getClass().getSimpleName();
        }
    }

    static long bit(boolean b) {
        return b ? 1 : 0;
    }

    void end() {
        System.out.println(name + ": " + done + " answers looked at, " + wrong + " not as due");
        if (wrong != 0) {
            System.exit(1);
        }
    }
}
