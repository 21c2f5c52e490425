/** Promise 2: line. */
final class Promise02LineTest extends Bench {
    private static void fortyLines(LineTimes y) {
        usualScene(y);
        for (int i = 2; i < 40; i++) {
            y.line(0);
        }
    }

    private void aLineMore() {
        about("Promise 2: a line more: its number");
        for (int i = 0; i < 40; i++) {
            same("line " + i, x.line(i % 128), i);
        }
        about("Promise 2: a line more has no stops");
        x.line(127);
        throwsOf(INDEX, "its stop 0", y -> y.change(0, 0, 0, 0));
        about("Promise 2: by bits of days, bit by bit");
        for (int bit = 0; bit < 7; bit++) {
            x = new LineTimes();
            lineOf(1 << bit, 0, 100, 100, 1, 200, 200);
            earliest(0, 1, 0, (long) bit * DAY + 200);
            earliest(0, 1, 7 * DAY, (7L + bit) * DAY + 200);
            earliest(0, 1, (long) bit * DAY + 101, (7L + bit) * DAY + 200);
        }
        about("Promise 2: by all bits, on each day");
        lineOf(127, 0, 100, 100, 1, 200, 200);
        for (int i = 0; i < 10; i++) {
            next(0, 1, 0, i, (long) i * DAY + 100);
        }
    }

    private void withoutAny() {
        about("Promise 2: without any bit it runs by exceptions alone");
        lineOf(0, 0, 100, 100, 1, 200, 200);
        earliest(0, 1, 0, NONE);
        x.exception(0, 4, true);
        earliest(0, 1, 0, 4 * DAY + 200);
        next(0, 1, 0, 1, NONE);
    }

    private void daysInBounds() {
        about("Promise 2: IllegalArgumentException when days is not 0 .. 127");
        taken("line(0)", 2, y -> y.line(0));
        taken("line(127)", 2, y -> y.line(127));
        noNumber("line(-1)", y -> y.line(-1));
        noNumber("line(128)", y -> y.line(128));
        noNumber("line(-128)", y -> y.line(-128));
        noNumber("line(255)", y -> y.line(255));
        noNumber("line(256)", y -> y.line(256));
        noNumber("the least days", y -> y.line(Integer.MIN_VALUE));
        noNumber("the most days", y -> y.line(Integer.MAX_VALUE));
    }

    private void room() {
        about("Promise 2: UnsupportedOperationException when there are 40 lines", Promise02LineTest::fortyLines);
        noRoom("line 41", y -> y.line(127));
        noRoom("line 41, again", y -> {
            try {
                y.line(1);
            } catch (UnsupportedOperationException e) {
                // The second one is refused as the first one was.
            }
            return y.line(0);
        });
        about("Promise 2: of IllegalArgumentException and UnsupportedOperationException the first",
                Promise02LineTest::fortyLines);
        noNumber("line(128) as line 41", y -> y.line(128));
        noNumber("line(-1) as line 41", y -> y.line(-1));
        about("Promise 2: there is room for the fortieth", y -> {
            usualScene(y);
            for (int i = 2; i < 39; i++) {
                y.line(0);
            }
        });
        taken("line 40", 39, y -> y.line(127));
        noNumber("line(128) as line 40", y -> y.line(128));
    }

    public static void main(String[] args) {
        Promise02LineTest test = new Promise02LineTest();
        test.aLineMore();
        test.withoutAny();
        test.daysInBounds();
        test.room();
        test.end();
    }
}
