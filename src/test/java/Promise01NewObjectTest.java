/** Promise 1: a new object has no lines and no zones. */
final class Promise01NewObjectTest extends Bench {
    private static void nothing(LineTimes y) {
        // A new object is told nothing.
    }

    private void noLines() {
        about("Promise 1: no lines", Promise01NewObjectTest::nothing);
        noIndex("stop of line 0", y -> y.stop(0, 0, 0, 0));
        noIndex("exception of line 0", y -> y.exception(0, 0, true));
        noIndex("change of line 0", y -> y.change(0, 0, 0, 0));
        idle("earliest", NONE, y -> y.earliest(0, 1, 0));
        idle("earliest, to itself", 1700000000, y -> y.earliest(99, 99, 1700000000));
        idle("next", NONE, y -> y.next(0, 1, 0, 0));
        idle("next, the last", NONE, y -> y.next(0, 0, 1700000000, 100));
        taken("the first line", 0, y -> y.line(0));
    }

    private void noWay() {
        about("Promise 1 (and 9): no way was told");
        told();
        same("step(-1, 0)", x.step(-1, 0), NONE);
        same("step(6, 5)", x.step(6, 5), NONE);
    }

    private void noZones() {
        about("Promise 1: no zones, no exceptions, no words, no changes", Promise01NewObjectTest::nothing);
        for (int place = 0; place < 100; place++) {
            same("least of " + place, x.least(place, 0), 0);
        }
        for (int place = 0; place < 100; place++) {
            same("the first row of " + place, x.zone(place, 0, 0), 1);
        }
        taken("the first row", 1, y -> y.zone(0, 0, 0));
        x = new LineTimes();
        lineOf(127, 0, 100, 100, 1, 200, 200);
        earliest(0, 1, 0, 200);
        same("the first exception", x.exception(0, 0, false), 1);
        same("the first word", x.change(0, 0, 0, 0), 1);
    }

    private void noText() {
        about("Promise 1 (and 13): no text", Promise01NewObjectTest::nothing);
        idle("read", 0, LineTimes::read);
    }

    private void itsOwn() {
        about("Promise 1: what one object is told is nothing to another one");
        LineTimes other = new LineTimes();
        usualScene(other);
        usualScene(x);
        LineTimes late = new LineTimes();
        same("the first line", late.line(127), 0);
        same("its way", late.earliest(0, 3, 0), NONE);
        same("its legs", late.step(0, 0), NONE);
        same("its rows", late.zone(1, 0, 0), 1);
        same("its text", late.read(), 0);
        same("the first one's line", x.step(1, 0), 1);
    }

    public static void main(String[] args) {
        Promise01NewObjectTest test = new Promise01NewObjectTest();
        test.noLines();
        test.noWay();
        test.noZones();
        test.noText();
        test.itsOwn();
        test.end();
    }
}
