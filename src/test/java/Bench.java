import java.util.Arrays;

/** What the tests of the promises share: an object to ask, and what is due of it. */
abstract class Bench {
    static final int DAY = 86400;
    static final int NONE = LineTimes.NONE;

    static final Class<IndexOutOfBoundsException> INDEX = IndexOutOfBoundsException.class;
    static final Class<IllegalArgumentException> NUMBER = IllegalArgumentException.class;
    static final Class<UnsupportedOperationException> ROOM = UnsupportedOperationException.class;

    /** What an object is told before it is asked. */
    interface Scene {
        void tell(LineTimes y);
    }

    /** A call on an object. */
    interface Ask {
        long of(LineTimes y);
    }

    LineTimes x;
    private Scene scene;
    private final Check check = new Check();

    /** Begins the test of one sentence, on a new object and in the usual scene. */
    final void about(String sentence) {
        about(sentence, Bench::usualScene);
    }

    /** Begins the test of one sentence whose calls are asked in a scene of its own. */
    final void about(String sentence, Scene own) {
        check.about(sentence);
        scene = own;
        x = new LineTimes();
    }

    final void end() {
        check.end();
    }

    /**
     * Two lines, 0 by the places 0, 1, 2 and 1 by the places 1, 3; a word, a row or a number of each
     * kind; a way of two legs told; and a text that is whole, so that any sign more is wrong.
     */
    static void usualScene(LineTimes y) {
        y.line(127);
        y.stop(0, 0, 1000, 1000);
        y.stop(0, 1, 5000, 5100);
        y.stop(0, 2, 9000, 9000);
        y.line(1);
        y.stop(1, 1, 20000, 20000);
        y.stop(1, 3, 30000, 30000);
        y.exception(0, 1, false);
        y.zone(1, 0, 10);
        y.least(1, 60);
        y.change(0, 1, 30, 0);
        y.earliest(0, 3, 0);
        sign(y, "L1;S5 100 100");
    }

    static long sign(LineTimes y, int c) {
        y.sign(c);
        return 0;
    }

    static void sign(LineTimes y, String text) {
        for (int i = 0; i < text.length(); i++) {
            y.sign(text.charAt(i));
        }
    }

    private LineTimes inScene() {
        LineTimes y = new LineTimes();
        scene.tell(y);
        return y;
    }

    /** A call that throws: what it throws, and that the object then answers as one never so asked. */
    final void refused(Class<? extends RuntimeException> due, String what, Ask ask) {
        LineTimes asked = inScene();
        check.thrown(what, due, () -> ask.of(asked));
        unchanged(what, asked);
    }

    private void unchanged(String what, LineTimes asked) {
        String[] seen = Look.at(asked);
        String[] due = Look.at(inScene());
        int i = 0;
        while (i < due.length - 1 && seen[i].equals(due[i])) {
            i++;
        }
        check.equal("behind " + what + " a look", seen[i], due[i]);
    }

    final void noIndex(String what, Ask ask) {
        refused(INDEX, what, ask);
    }

    final void noNumber(String what, Ask ask) {
        refused(NUMBER, what, ask);
    }

    final void noRoom(String what, Ask ask) {
        refused(ROOM, what, ask);
    }

    /** A call that answers and changes nothing, for all that can be seen. */
    final void idle(String what, long due, Ask ask) {
        LineTimes asked = inScene();
        check.equal(what, Check.outcome(() -> ask.of(asked)), Long.toString(due));
        unchanged(what, asked);
    }

    /** A call that is taken: its answer, and that a look tells it from one that was refused. */
    final void taken(String what, long due, Ask ask) {
        LineTimes asked = inScene();
        check.equal(what, Check.outcome(() -> ask.of(asked)), Long.toString(due));
        boolean seen = !Arrays.equals(Look.at(asked), Look.at(inScene()));
        check.equal(what + " is seen", Boolean.toString(seen), "true");
    }

    final void same(String what, long got, long due) {
        check.same(what, got, due);
    }

    /** What x throws, where a look would be one call too many or tell nothing. */
    final void throwsOf(Class<? extends RuntimeException> due, String what, Ask ask) {
        check.thrown(what, due, () -> ask.of(x));
    }

    /** A line more of x with these stops, three numbers each: place, arrives, leaves. */
    final int lineOf(int days, long... stops) {
        int line = x.line(days);
        for (int i = 0; i + 2 < stops.length; i += 3) {
            same("stop " + i / 3 + " of line " + line, x.stop(line, (int) stops[i], stops[i + 1], stops[i + 2]), 1);
        }
        return line;
    }

    final void earliest(int from, int to, long t, long due) {
        check.equal("earliest(" + from + ", " + to + ", " + t + ")",
                Check.outcome(() -> x.earliest(from, to, t)), Long.toString(due));
    }

    /** The best way's arrival and legs, each leg as line, day, stops entered and left, times. */
    final void best(int from, int to, long t, long due, String... legs) {
        earliest(from, to, t, due);
        told(legs);
    }

    /** The legs that step tells of x now, and none behind them. */
    final void told(String... legs) {
        for (int i = 0; i <= legs.length; i++) {
            StringBuilder leg = new StringBuilder();
            for (int part = 0; part < 6; part++) {
                leg.append(part == 0 ? "" : " ").append(x.step(i, part));
            }
            check.equal("leg " + i, leg.toString(), i < legs.length ? legs[i] : "-1 -1 -1 -1 -1 -1");
        }
    }

    final void next(int from, int to, long t, int i, long due) {
        check.equal("next(" + from + ", " + to + ", " + t + ", " + i + ")",
                Check.outcome(() -> x.next(from, to, t, i)), Long.toString(due));
    }

    final void read(String text, int due) {
        sign(x, text);
        check.equal("read() of '" + text + "'", Check.outcome(x::read), Integer.toString(due));
    }
}
