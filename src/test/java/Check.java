/** Compares answers with those that are due, prints the wrong ones and ends a test with exit code 1 if there was one. */
final class Check {
    /** A call of which an exception is due. */
    interface Call {
        Object answer();
    }

    private int wrong = 0;
    private int asked = 0;

    void is(String what, Object got, Object due) {
        asked++;
        if (!got.equals(due)) {
            wrong++;
            System.out.println(what + " answered " + got + ", due is " + due);
        }
    }

    void fails(String what, Class<? extends RuntimeException> due, Call call) {
        is(what, outcome(call), "throws " + due.getSimpleName());
    }

    /** The answer as text, or the name of the exception. */
    static String outcome(Call call) {
        try {
            return String.valueOf(call.answer());
        } catch (RuntimeException thrown) {
            return "throws " + thrown.getClass().getSimpleName();
        }
    }

    void end() {
        if (wrong > 0) {
            System.out.println(wrong + " of " + asked + " answers are wrong");
            System.exit(1);
        }
    }
}
