/** Counts what was asked and prints every answer that is not the one that is due. */
final class Check {
    /** A call that may throw. */
    interface Call {
        long answer();
    }

    private static final int MOST_PRINTED = 50;

    private String sentence = "";
    private int sentences;
    private int askedOfSentence;
    private int asked;
    private int wrong;

    /** Begins the test of a sentence of the document: its name stands before what goes wrong. */
    void about(String next) {
        endSentence();
        sentence = next;
        sentences++;
        askedOfSentence = 0;
    }

    void same(String what, long got, long due) {
        equal(what, Long.toString(got), Long.toString(due));
    }

    void thrown(String what, Class<? extends RuntimeException> due, Call call) {
        equal(what, outcome(call), due.getSimpleName());
    }

    void equal(String what, String got, String due) {
        asked++;
        askedOfSentence++;
        if (!got.equals(due)) {
            say(what + " answered " + got + ", due is " + due);
        }
    }

    /** The answer as a text, or the simple name of what was thrown by a throw statement. */
    static String outcome(Call call) {
        try {
            return Long.toString(call.answer());
        } catch (RuntimeException e) {
            String name = e.getClass().getSimpleName();
            return isWrittenThrow(e) ? name : name + " of the machine or the library";
        }
    }

    /** The machine's own exceptions bear its messages, or in hot code neither message nor trace. */
    private static boolean isWrittenThrow(RuntimeException e) {
        StackTraceElement[] trace = e.getStackTrace();
        String text = e.getMessage();
        if (trace.length == 0 || text != null && text.contains("out of bounds for")) {
            return false;
        }
        String thrower = trace[0].getClassName();
        return thrower.startsWith("LineTimes") || thrower.startsWith("Model");
    }

    void end() {
        endSentence();
        String of = sentences == 0 ? "" : sentences + " sentences, ";
        System.out.println(of + asked + " answers, " + wrong + " of them not as due");
        if (wrong != 0) {
            System.exit(1);
        }
    }

    /** A sentence of which nothing was asked is not tested, whatever its name says. */
    private void endSentence() {
        if (sentences > 0 && askedOfSentence == 0) {
            say("nothing was asked");
        }
    }

    private void say(String text) {
        wrong++;
        if (wrong <= MOST_PRINTED) {
            System.out.println(sentence.isEmpty() ? text : sentence + ": " + text);
        }
    }
}
