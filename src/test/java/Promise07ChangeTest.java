/** Promise 7: change. */
final class Promise07ChangeTest extends Bench {
    /** The usual scene has one of them: line 0, stop 1, 30 seconds, day 0. */
    private static void hundredWords(LineTimes y) {
        usualScene(y);
        for (int i = 0; i < 99; i++) {
            y.change(i % 2, 0, 1, 1000 + i);
        }
    }

    private void late() {
        about("Promise 7: a stop and those behind it, on a day, are so many seconds later");
        lineOf(127, 0, 100, 110, 1, 200, 210, 2, 300, 310);
        same("the first word", x.change(0, 1, 7, 1), 1);
        best(0, 2, DAY, DAY + 307, "0 1 0 2 86510 86707");
        best(1, 2, DAY, DAY + 307, "0 1 1 2 86617 86707");
        best(0, 2, 0, 300, "0 0 0 2 110 300");
        best(0, 2, 2 * DAY, 2 * DAY + 300, "0 2 0 2 172910 173100");
        about("Promise 7: the first stop, so that all are later");
        lineOf(127, 0, 100, 110, 1, 200, 210);
        x.change(0, 0, 5, 0);
        best(0, 1, 0, 205, "0 0 0 1 115 205");
        earliest(0, 1, 115, 205);
        earliest(0, 1, 116, DAY + 200);
        about("Promise 7: the last stop, so that it alone is later");
        lineOf(127, 0, 100, 110, 1, 200, 210, 2, 300, 310);
        x.change(0, 2, 5, 0);
        best(0, 1, 0, 200, "0 0 0 1 110 200");
        best(0, 2, 0, 305, "0 0 0 2 110 305");
        about("Promise 7: a stop that comes later is behind it too");
        lineOf(127, 0, 100, 110, 1, 200, 210);
        x.change(0, 1, 5, 0);
        same("a stop more, by the times told", x.stop(0, 2, 210, 210), 1);
        best(0, 2, 0, 215, "0 0 0 2 110 215");
        about("Promise 7: on a day on which the line does not run yet");
        lineOf(0, 0, 100, 110, 1, 200, 210);
        same("the word counts", x.change(0, 0, 5, 3), 1);
        earliest(0, 1, 0, NONE);
        x.exception(0, 3, true);
        earliest(0, 1, 0, 3 * DAY + 205);
    }

    private void besides() {
        about("Promise 7: besides what was told: how many such words there are");
        lineOf(127, 0, 100, 110, 1, 200, 210);
        lineOf(127, 2, 100, 110, 3, 200, 210);
        same("the first word", x.change(0, 0, 5, 0), 1);
        same("the same word again", x.change(0, 0, 5, 0), 2);
        same("of another line", x.change(1, 1, 7, 0), 3);
        same("of another day", x.change(0, 1, 9, 1), 4);
        same("of no seconds", x.change(0, 1, 0, 0), 5);
        best(0, 1, 0, 210, "0 0 0 1 120 210");
        best(2, 3, 0, 207, "1 0 0 1 110 207");
        best(0, 1, DAY, DAY + 209, "0 1 0 1 86510 86609");
        about("Promise 7: a hundred of the longest words");
        lineOf(0, 0, 0, 0, 1, 0, 0);
        x.exception(0, 0, true);
        for (int i = 0; i < 100; i++) {
            same("word " + i, x.change(0, 1, 100000, 0), i + 1);
        }
        best(0, 1, 0, 10000000, "0 0 0 1 0 10000000");
    }

    private void indices() {
        about("Promise 7: IndexOutOfBoundsException: there is no such line");
        taken("line 0", 2, y -> y.change(0, 0, 1, 0));
        taken("line 1", 2, y -> y.change(1, 0, 1, 0));
        for (int line : new int[] {-1, 2, 40, Integer.MIN_VALUE, Integer.MAX_VALUE}) {
            noIndex("line " + line, y -> y.change(line, 0, 1, 0));
        }
        about("Promise 7: IndexOutOfBoundsException: there is no such stop");
        taken("stop 2 of three", 2, y -> y.change(0, 2, 1, 0));
        taken("stop 1 of two", 2, y -> y.change(1, 1, 1, 0));
        for (int stop : new int[] {-1, 3, 11, 12, Integer.MIN_VALUE, Integer.MAX_VALUE}) {
            noIndex("stop " + stop + " of three", y -> y.change(0, stop, 1, 0));
        }
        noIndex("stop 2 of two", y -> y.change(1, 2, 1, 0));
        x.line(127);
        throwsOf(INDEX, "stop 0 of none", y -> y.change(0, 0, 1, 0));
        for (int i = 0; i < 12; i++) {
            x.stop(0, i, 0, 0);
        }
        same("stop 11 of twelve", x.change(0, 11, 1, 0), 1);
        throwsOf(INDEX, "stop 12 of twelve", y -> y.change(0, 12, 1, 0));
    }

    private void numbers() {
        about("Promise 7: IllegalArgumentException when by is not 0 .. 100000");
        taken("by 0", 2, y -> y.change(0, 0, 0, 0));
        taken("by 100000", 2, y -> y.change(0, 0, 100000, 0));
        for (long by : new long[] {-1, 100001, 1L << 32, (1L << 32) + 1, Long.MIN_VALUE, Long.MAX_VALUE}) {
            noNumber("by " + by, y -> y.change(0, 0, by, 0));
        }
        about("Promise 7: IllegalArgumentException when day is not 0 .. 20000");
        taken("day 0", 2, y -> y.change(0, 0, 1, 0));
        taken("day 20000", 2, y -> y.change(0, 0, 1, 20000));
        for (long day : new long[] {-1, 20001, 1L << 32, (1L << 32) + 1, Long.MIN_VALUE, Long.MAX_VALUE}) {
            noNumber("day " + day, y -> y.change(0, 0, 1, day));
        }
    }

    private void room() {
        about("Promise 7: UnsupportedOperationException when there would be more than 100",
                Promise07ChangeTest::hundredWords);
        noRoom("of line 0", y -> y.change(0, 0, 1, 0));
        noRoom("of line 1", y -> y.change(1, 0, 1, 0));
        noRoom("the same word again", y -> y.change(0, 1, 30, 0));
        noRoom("of no seconds", y -> y.change(0, 0, 0, 0));
        about("Promise 7: there is room for the hundredth");
        lineOf(127, 0, 0, 0, 1, 0, 0);
        for (int i = 0; i < 99; i++) {
            same("word " + i, x.change(0, 0, 1, 500), i + 1);
        }
        same("the hundredth", x.change(0, 1, 5, 0), 100);
        earliest(0, 1, 0, 5);
        throwsOf(ROOM, "one more", y -> y.change(0, 1, 5, 0));
        earliest(0, 1, 0, 5);
        about("Promise 7: the room of exceptions and of rows is not that of words", Promise07ChangeTest::hundredWords);
        taken("an exception", 2, y -> y.exception(0, 0, false));
        taken("a row", 1, y -> y.zone(99, 0, 0));
    }

    private void whichFirst() {
        about("Promise 7: of several exceptions the one named first", Promise07ChangeTest::hundredWords);
        noIndex("no line, bad numbers, no room", y -> y.change(2, 0, -1, -1));
        noIndex("no stop, bad numbers, no room", y -> y.change(0, 3, 100001, 20001));
        noIndex("no stop, no room", y -> y.change(0, -1, 0, 0));
        noNumber("a bad by, no room", y -> y.change(0, 0, -1, 0));
        noNumber("a bad day, no room", y -> y.change(0, 0, 0, 20001));
        about("Promise 7: of several exceptions the one named first, where there is room");
        noIndex("no line, a bad by", y -> y.change(2, 0, 100001, 0));
        noIndex("no stop, a bad day", y -> y.change(0, 3, 0, -1));
    }

    public static void main(String[] args) {
        Promise07ChangeTest test = new Promise07ChangeTest();
        test.late();
        test.besides();
        test.indices();
        test.numbers();
        test.room();
        test.whichFirst();
        test.end();
    }
}
