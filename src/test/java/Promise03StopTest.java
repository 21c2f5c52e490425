/** Promise 3: stop. */
final class Promise03StopTest extends Bench {
    private static void twelveStops(LineTimes y) {
        usualScene(y);
        for (int i = 3; i < 12; i++) {
            y.stop(0, i, 9000, 9000);
        }
    }

    private void aStopMore() {
        about("Promise 3: a stop more at the end of a line: 1");
        taken("of line 0", 1, y -> y.stop(0, 99, 90000, 90000));
        taken("of line 1", 1, y -> y.stop(1, 99, 90000, 90000));
        x.line(127);
        same("the first", x.stop(0, 7, 10, 20), 1);
        same("the second", x.stop(0, 8, 30, 40), 1);
        same("the third", x.stop(0, 9, 50, 60), 1);
        best(7, 9, 0, 50, "0 0 0 2 20 50");
        best(8, 9, 0, 50, "0 0 1 2 40 50");
        about("Promise 3: a line may stop at a place again, and at once");
        lineOf(127, 7, 10, 10, 7, 10, 10, 8, 10, 10, 7, 10, 10);
        best(7, 8, 0, 10, "0 0 0 2 10 10");
        best(8, 7, 0, 10, "0 0 2 3 10 10");
    }

    private void tooEarly() {
        about("Promise 3: 0, and none comes, when it arrives before the one in front leaves");
        idle("a second before", 0, y -> y.stop(0, 3, 8999, 9500));
        idle("at 0", 0, y -> y.stop(0, 3, 0, 259200));
        taken("as the one in front leaves", 1, y -> y.stop(0, 3, 9000, 9000));
        about("Promise 3: the one in front's leaving counts, not its arriving");
        lineOf(127, 0, 10, 20);
        same("behind its arriving", x.stop(0, 1, 19, 30), 0);
        same("at its leaving", x.stop(0, 1, 20, 30), 1);
        about("Promise 3: of that line alone");
        lineOf(127, 0, 500, 500);
        lineOf(127, 0, 100, 100, 1, 200, 200);
        earliest(0, 1, 0, 200);
        about("Promise 3: the times are those of the clocks told, whatever the zones");
        lineOf(127, 0, 10000, 10000);
        x.zone(0, 0, 900);
        x.zone(1, 0, -900);
        same("before, by the clocks", x.stop(0, 1, 9999, 9999), 0);
        same("as it leaves, by the clocks", x.stop(0, 1, 10000, 10000), 1);
    }

    private void leavesTooEarly() {
        about("Promise 3: 0, and none comes, when it leaves before it arrives");
        idle("a second before", 0, y -> y.stop(0, 3, 9501, 9500));
        idle("at 0", 0, y -> y.stop(0, 3, 259200, 0));
        idle("both", 0, y -> y.stop(0, 3, 8999, 8998));
        taken("as it arrives", 1, y -> y.stop(0, 3, 9500, 9500));
        about("Promise 3: 0 of a line without stops too");
        x.line(127);
        same("leaves before it arrives", x.stop(0, 0, 1, 0), 0);
        throwsOf(INDEX, "its stop 0", y -> y.change(0, 0, 0, 0));
        same("the first may arrive at 0", x.stop(0, 0, 0, 0), 1);
    }

    private void places() {
        about("Promise 3: IndexOutOfBoundsException: there is no such line");
        taken("line 0", 1, y -> y.stop(0, 3, 9000, 9000));
        taken("line 1", 1, y -> y.stop(1, 3, 30000, 30000));
        for (int line : new int[] {-1, 2, 40, Integer.MIN_VALUE, Integer.MAX_VALUE}) {
            noIndex("line " + line, y -> y.stop(line, 3, 90000, 90000));
        }
        about("Promise 3: IndexOutOfBoundsException: there is no such place");
        taken("place 0", 1, y -> y.stop(0, 0, 90000, 90000));
        taken("place 99", 1, y -> y.stop(0, 99, 90000, 90000));
        for (int place : new int[] {-1, 100, Integer.MIN_VALUE, Integer.MAX_VALUE}) {
            noIndex("place " + place, y -> y.stop(0, place, 90000, 90000));
        }
    }

    private void times() {
        about("Promise 3: IllegalArgumentException when a time is not 0 .. 259200");
        taken("both 259200", 1, y -> y.stop(0, 3, 259200, 259200));
        taken("leaves 259200", 1, y -> y.stop(0, 3, 9000, 259200));
        for (long time : new long[] {-1, 259201, 1L << 32, (1L << 32) + 100000, Long.MIN_VALUE, Long.MAX_VALUE}) {
            noNumber("arrives " + time, y -> y.stop(0, 3, time, 259200));
            noNumber("leaves " + time, y -> y.stop(0, 3, 9000, time));
            noNumber("arrives and leaves " + time, y -> y.stop(0, 3, time, time));
        }
        x.line(127);
        same("both 0", x.stop(0, 0, 0, 0), 1);
        same("0 and 259200", x.stop(0, 1, 0, 259200), 1);
        same("both 259200", x.stop(0, 2, 259200, 259200), 1);
        best(0, 2, 0, 259200, "0 0 0 2 0 259200");
    }

    private void room() {
        about("Promise 3: UnsupportedOperationException when the line has 12 stops", Promise03StopTest::twelveStops);
        noRoom("stop 13", y -> y.stop(0, 3, 9000, 9000));
        noRoom("stop 13 at the end of time", y -> y.stop(0, 0, 259200, 259200));
        taken("another line has room", 1, y -> y.stop(1, 0, 259200, 259200));
        about("Promise 3: there is room for the twelfth");
        x.line(127);
        for (int i = 0; i < 12; i++) {
            same("stop " + i, x.stop(0, i, i, i), 1);
        }
        best(0, 11, 0, 11, "0 0 0 11 0 11");
        throwsOf(ROOM, "stop 13", y -> y.stop(0, 12, 12, 12));
    }

    private void whichFirst() {
        about("Promise 3: of several exceptions the one named first", Promise03StopTest::twelveStops);
        noIndex("no line, a bad time", y -> y.stop(2, 3, -1, 0));
        noIndex("no place, a bad time, no room", y -> y.stop(0, 100, 259201, 0));
        noIndex("no place, no room", y -> y.stop(0, -1, 9000, 9000));
        noNumber("a bad arriving, no room", y -> y.stop(0, 3, -1, 9000));
        noNumber("a bad leaving, no room", y -> y.stop(0, 3, 9000, 259201));
        about("Promise 3: what is thrown is asked before 0 is answered", Promise03StopTest::twelveStops);
        noRoom("no room, and too early", y -> y.stop(0, 3, 8999, 9000));
        noRoom("no room, and leaves before it arrives", y -> y.stop(0, 3, 9001, 9000));
        about("Promise 3: what is thrown is asked before 0 is answered, where there is room");
        noIndex("no line, leaves before it arrives", y -> y.stop(2, 3, 2, 1));
        noIndex("no place, and too early", y -> y.stop(0, 100, 2, 1));
        noNumber("a bad leaving, before it arrives", y -> y.stop(0, 3, 9000, -1));
        noNumber("a bad arriving, too early", y -> y.stop(0, 3, -1, 5));
        noNumber("a bad arriving, and leaves before it", y -> y.stop(0, 3, 259201, 259200));
        noNumber("a bad leaving, and arrives too early", y -> y.stop(0, 3, 0, 259201));
    }

    public static void main(String[] args) {
        Promise03StopTest test = new Promise03StopTest();
        test.aStopMore();
        test.tooEarly();
        test.leavesTooEarly();
        test.places();
        test.times();
        test.room();
        test.whichFirst();
        test.end();
    }
}
