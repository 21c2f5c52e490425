/** Counts what was asked and prints every answer that is not the one that is due. */
final class Check {
    /** A call that may throw. */
    interface Call {
        long answer();
    }

    private int asked;
    private int wrong;

    void same(String what, long got, long due) {
        asked++;
        if (got != due) {
            say(what + " answered " + got + ", due is " + due);
        }
    }

    void thrown(String what, Class<? extends RuntimeException> due, Call call) {
        asked++;
        String got = outcome(call);
        if (!got.equals(due.getSimpleName())) {
            say(what + " answered " + got + ", due is " + due.getSimpleName());
        }
    }

    void noIndex(String what, Call call) {
        thrown(what, IndexOutOfBoundsException.class, call);
    }

    void noNumber(String what, Call call) {
        thrown(what, IllegalArgumentException.class, call);
    }

    void noRoom(String what, Call call) {
        thrown(what, UnsupportedOperationException.class, call);
    }

    void equal(String what, String got, String due) {
        asked++;
        if (!got.equals(due)) {
            say(what + " answered " + got + ", due is " + due);
        }
    }

    /** The answer as a text, or the simple name of what was thrown by a throw statement. */
    static String outcome(Call call) {
        try {
            return Long.toString(call.answer());
        } catch (RuntimeException e) {
            String name = e.getClass().getSimpleName();
            return isWrittenThrow(e) ? name : name + " of the machine or the library";
        }
    }

    /** The machine's own exceptions bear its messages, or in hot code neither message nor trace. */
    private static boolean isWrittenThrow(RuntimeException e) {
        StackTraceElement[] trace = e.getStackTrace();
        String text = e.getMessage();
        if (trace.length == 0 || text != null && text.contains("out of bounds for")) {
            return false;
        }
        String thrower = trace[0].getClassName();
        return thrower.startsWith("LineTimes") || thrower.startsWith("Model");
    }

    void end() {
        System.out.println(asked + " answers, " + wrong + " of them not as due");
        if (wrong != 0) {
            System.exit(1);
        }
    }

    private void say(String text) {
        wrong++;
        if (wrong <= 50) {
            System.out.println(text);
        }
    }
}
