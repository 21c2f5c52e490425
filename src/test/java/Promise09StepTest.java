/** Promise 9: step. */
final class Promise09StepTest extends Bench {
    private static final String FIRST = "0 0 0 1 1000 4430";
    private static final String SECOND = "1 0 0 1 19400 30000";

    private void whats() {
        about("Promise 9: what = 0 its line, 1 its day, 2 where it is entered, 3 where it is left, 4 when it leaves, "
                + "5 when it arrives");
        lineOf(0, 9, 0, 0);
        lineOf(0, 9, 0, 0, 0, 10, 20, 8, 30, 40, 1, 50, 60, 7, 70, 80);
        x.exception(1, 5, true);
        earliest(0, 1, 0, 5 * DAY + 50);
        int[] due = {1, 5, 1, 3, 5 * DAY + 20, 5 * DAY + 50};
        for (int what = 0; what < 6; what++) {
            same("step(0, " + what + ")", x.step(0, what), due[what]);
        }
    }

    private void noSuchLeg() {
        about("Promise 9: NONE when there is no such leg");
        idle("the last leg", 1, y -> y.step(1, 0));
        for (int i : new int[] {-1, 2, 5, 6, Integer.MIN_VALUE, Integer.MAX_VALUE}) {
            for (int what = 0; what < 6; what++) {
                int part = what;
                idle("step(" + i + ", " + what + ")", NONE, y -> y.step(i, part));
            }
        }
        about("Promise 9: leg 5 is the last one that there may be");
        for (int i = 0; i < 6; i++) {
            lineOf(127, i, i, i, i + 1, i + 1, i + 1);
        }
        earliest(0, 6, 0, 6);
        same("leg 5", x.step(5, 0), 5);
        same("leg 6", x.step(6, 0), NONE);
        same("leg -1", x.step(-1, 0), NONE);
        about("Promise 9: none, if no way was told yet");
        told();
        lineOf(127, 0, 0, 0, 1, 1, 1);
        told();
        about("Promise 9: none, if it told NONE");
        usualScene(x);
        told(FIRST, SECOND);
        earliest(3, 0, 0, NONE);
        told();
        about("Promise 9: none, if it told a way to itself");
        usualScene(x);
        earliest(3, 3, 0, 0);
        told();
    }

    private void asToldThen() {
        about("Promise 9: of the way that earliest told latest");
        usualScene(x);
        earliest(0, 1, 2 * DAY, 2 * DAY + 4400);
        told("0 2 0 1 173800 177200");
        earliest(0, 3, 0, 30000);
        told(FIRST, SECOND);
        about("Promise 9: as it was told then, whatever is told behind it");
        usualScene(x);
        x.read();
        x.zone(0, 0, 2);
        x.zone(1, 0, -5);
        x.least(1, 100000);
        x.change(0, 0, 50, 0);
        x.change(1, 0, 50, 0);
        x.exception(0, 0, false);
        x.exception(1, 0, false);
        x.stop(0, 3, 9000, 9000);
        lineOf(127, 0, 1, 1, 3, 2, 2);
        told(FIRST, SECOND);
        about("Promise 9: as it was told then, whatever is asked behind it");
        usualScene(x);
        same("next", x.next(0, 1, 0, 1), 2 * DAY + 1000);
        same("days", x.days(2, 2000), 29);
        same("read", x.read(), 1);
        told(FIRST, SECOND);
        about("Promise 9: a call of earliest that throws tells no way");
        usualScene(x);
        throwsOf(INDEX, "no place", y -> y.earliest(0, 100, 0));
        throwsOf(NUMBER, "a bad t", y -> y.earliest(0, 0, -1));
        told(FIRST, SECOND);
    }

    private void otherWhats() {
        about("Promise 9: IllegalArgumentException when what is none of these");
        idle("what 0", 0, y -> y.step(0, 0));
        idle("what 5", 4430, y -> y.step(0, 5));
        for (int what : new int[] {-1, 6, Integer.MIN_VALUE, Integer.MAX_VALUE}) {
            noNumber("what " + what + " of a leg", y -> y.step(0, what));
            noNumber("what " + what + " of no leg", y -> y.step(2, what));
            noNumber("what " + what + " of leg -1", y -> y.step(-1, what));
        }
        about("Promise 9: IllegalArgumentException where no way was told too");
        throwsOf(NUMBER, "what -1", y -> y.step(0, -1));
        throwsOf(NUMBER, "what 6", y -> y.step(0, 6));
    }

    public static void main(String[] args) {
        Promise09StepTest test = new Promise09StepTest();
        test.whats();
        test.noSuchLeg();
        test.asToldThen();
        test.otherWhats();
        test.end();
    }
}
