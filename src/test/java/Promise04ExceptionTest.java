/** Promise 4: exception. */
final class Promise04ExceptionTest extends Bench {
    /** The usual scene has one of them: not on day 1. */
    private static void hundredExceptions(LineTimes y) {
        usualScene(y);
        for (int i = 0; i < 99; i++) {
            y.exception(i % 2, 100 + i, true);
        }
    }

    private void runsOrNot() {
        about("Promise 4: a line does not run on a day, whatever its days of the week");
        lineOf(127, 0, 100, 100, 1, 200, 200);
        same("not on day 0", x.exception(0, 0, false), 1);
        earliest(0, 1, 0, DAY + 200);
        same("not on day 2", x.exception(0, 2, false), 2);
        earliest(0, 1, DAY + 101, 3 * DAY + 200);
        about("Promise 4: a line runs on a day, whatever its days of the week");
        lineOf(1, 0, 100, 100, 1, 200, 200);
        same("on day 1", x.exception(0, 1, true), 1);
        earliest(0, 1, 101, DAY + 200);
        earliest(0, 1, DAY + 101, 7 * DAY + 200);
        about("Promise 4: a word that says what the week says changes nothing but the number");
        lineOf(1, 0, 100, 100, 1, 200, 200);
        same("on day 0", x.exception(0, 0, true), 1);
        same("not on day 1", x.exception(0, 1, false), 2);
        earliest(0, 1, 0, 200);
        earliest(0, 1, 101, 7 * DAY + 200);
        about("Promise 4: the word is of that day alone, and not of its week");
        lineOf(127, 0, 100, 100, 1, 200, 200);
        x.exception(0, 7, false);
        earliest(0, 1, 0, 200);
        earliest(0, 1, 7 * DAY, 8 * DAY + 200);
        earliest(0, 1, 14 * DAY, 14 * DAY + 200);
        about("Promise 4: the word is of that line alone");
        lineOf(127, 0, 100, 100, 1, 200, 200);
        lineOf(127, 0, 100, 100, 2, 300, 300);
        same("of line 0", x.exception(0, 0, false), 1);
        earliest(0, 1, 0, DAY + 200);
        earliest(0, 2, 0, 300);
    }

    private void theLatestWord() {
        about("Promise 4: the latest word for a line and day counts, in place of the one before");
        lineOf(127, 0, 100, 100, 1, 200, 200);
        same("not on day 0", x.exception(0, 0, false), 1);
        earliest(0, 1, 0, DAY + 200);
        same("but on day 0", x.exception(0, 0, true), 1);
        earliest(0, 1, 0, 200);
        same("nor on day 0", x.exception(0, 0, false), 1);
        earliest(0, 1, 0, DAY + 200);
        same("the same again", x.exception(0, 0, false), 1);
        earliest(0, 1, 0, DAY + 200);
        about("Promise 4: how many exceptions there are, of all lines");
        for (int i = 0; i < 4; i++) {
            x.line(127);
        }
        same("line 0, day 5", x.exception(0, 5, true), 1);
        same("line 3, day 5", x.exception(3, 5, true), 2);
        same("line 3, day 6", x.exception(3, 6, false), 3);
        same("line 0, day 5 again", x.exception(0, 5, false), 3);
        same("line 3, day 5 again", x.exception(3, 5, false), 3);
        same("line 1, day 0", x.exception(1, 0, false), 4);
    }

    private void bounds() {
        about("Promise 4: IndexOutOfBoundsException: there is no such line");
        taken("line 0", 2, y -> y.exception(0, 0, false));
        taken("line 1", 2, y -> y.exception(1, 0, false));
        for (int line : new int[] {-1, 2, 40, Integer.MIN_VALUE, Integer.MAX_VALUE}) {
            noIndex("line " + line, y -> y.exception(line, 0, false));
        }
        about("Promise 4: IllegalArgumentException when day is not 0 .. 20000");
        taken("day 0", 2, y -> y.exception(0, 0, false));
        taken("day 20000", 2, y -> y.exception(0, 20000, true));
        for (long day : new long[] {-1, 20001, 1L << 32, (1L << 32) + 1, Long.MIN_VALUE, Long.MAX_VALUE}) {
            noNumber("day " + day, y -> y.exception(0, day, false));
            noNumber("day " + day + " with a run", y -> y.exception(0, day, true));
        }
    }

    private void room() {
        about("Promise 4: UnsupportedOperationException when there would be more than 100",
                Promise04ExceptionTest::hundredExceptions);
        noRoom("of line 0", y -> y.exception(0, 0, false));
        noRoom("of line 1", y -> y.exception(1, 1, false));
        noRoom("of the last day", y -> y.exception(1, 20000, true));
        about("Promise 4: in place of the one before there is always room", Promise04ExceptionTest::hundredExceptions);
        taken("again on day 1", 100, y -> y.exception(0, 1, true));
        idle("as before", 100, y -> y.exception(0, 1, false));
        about("Promise 4: there is room for the hundredth");
        lineOf(127, 0, 100, 100, 1, 200, 200);
        x.line(0);
        for (int i = 0; i < 99; i++) {
            same("exception " + i, x.exception(1, 100 + i, true), i + 1);
        }
        same("the hundredth", x.exception(0, 0, false), 100);
        earliest(0, 1, 0, DAY + 200);
        throwsOf(ROOM, "one more", y -> y.exception(0, 1, false));
        earliest(0, 1, 0, DAY + 200);
        about("Promise 4: the room of rows and of words is not that of exceptions",
                Promise04ExceptionTest::hundredExceptions);
        taken("a row", 1, y -> y.zone(99, 0, 0));
        taken("a word", 2, y -> y.change(0, 0, 0, 0));
    }

    private void whichFirst() {
        about("Promise 4: of several exceptions the one named first", Promise04ExceptionTest::hundredExceptions);
        noIndex("no line, a bad day, no room", y -> y.exception(2, 20001, true));
        noIndex("no line, no room", y -> y.exception(-1, 0, true));
        noNumber("a bad day, no room", y -> y.exception(0, -1, true));
        noNumber("another bad day, no room", y -> y.exception(0, 20001, true));
        about("Promise 4: of several exceptions the one named first, where there is room");
        noIndex("no line, a bad day", y -> y.exception(2, -1, true));
    }

    public static void main(String[] args) {
        Promise04ExceptionTest test = new Promise04ExceptionTest();
        test.runsOrNot();
        test.theLatestWord();
        test.bounds();
        test.room();
        test.whichFirst();
        test.end();
    }
}
