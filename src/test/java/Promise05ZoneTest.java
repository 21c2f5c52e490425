/** Promise 5: zone. */
final class Promise05ZoneTest extends Bench {
    /** The usual scene has one of them: place 1, from 0 on, 10 minutes. */
    private static void hundredRows(LineTimes y) {
        usualScene(y);
        for (int i = 0; i < 99; i++) {
            y.zone(50 + i % 10, i, 5);
        }
    }

    private void aRowMore() {
        about("Promise 5: a row more for a place: how many the place has");
        same("the first of 1", x.zone(1, 100, 5), 1);
        same("the second of 1", x.zone(1, 99, 5), 2);
        same("the third of 1", x.zone(1, 101, 5), 3);
        same("the first of 0", x.zone(0, 100, 5), 1);
        same("the first of 99", x.zone(99, 100, 5), 1);
        same("the fourth of 1", x.zone(1, 0, 5), 4);
        about("Promise 5: the row is of that place alone");
        lineOf(127, 0, 60000, 60000, 1, 60000, 60000, 2, 60000, 60000);
        x.zone(1, 0, 10);
        best(0, 2, 0, 60000, "0 0 0 2 60000 60000");
        best(1, 2, 0, 60000, "0 0 1 2 59400 60000");
    }

    private void insteadOfOne() {
        about("Promise 5: instead of one from the same second");
        lineOf(127, 0, 0, 0, 1, 60000, 60000);
        same("the first", x.zone(1, 0, 10), 1);
        same("instead of it", x.zone(1, 0, -10), 1);
        earliest(0, 1, 0, 60600);
        same("another one", x.zone(1, DAY, 20), 2);
        same("instead of the first again", x.zone(1, 0, 30), 2);
        earliest(0, 1, 0, 58200);
        earliest(0, 1, DAY, DAY + 58800);
        same("instead of the last", x.zone(1, DAY, 0), 2);
        earliest(0, 1, DAY, DAY + 60000);
        same("the same second of another place", x.zone(0, 0, 0), 1);
        about("Promise 5: one from a second beside it is another one");
        same("from 100", x.zone(1, 100, 1), 1);
        same("from 101", x.zone(1, 101, 1), 2);
        same("from 99", x.zone(1, 99, 1), 3);
        same("from 100 again", x.zone(1, 100, 2), 3);
    }

    private void bounds() {
        about("Promise 5: IndexOutOfBoundsException: there is no such place");
        taken("place 0", 1, y -> y.zone(0, 0, 1));
        taken("place 99", 1, y -> y.zone(99, 0, 1));
        for (int place : new int[] {-1, 100, Integer.MIN_VALUE, Integer.MAX_VALUE}) {
            noIndex("place " + place, y -> y.zone(place, 0, 1));
        }
        about("Promise 5: IllegalArgumentException when from is below 0 or above 2000000000");
        taken("from 0", 1, y -> y.zone(1, 0, 11));
        taken("from 2000000000", 2, y -> y.zone(1, 2000000000, 11));
        for (long from : new long[] {-1, 2000000001, 1L << 32, (1L << 32) + 1, Long.MIN_VALUE, Long.MAX_VALUE}) {
            noNumber("from " + from, y -> y.zone(1, from, 11));
        }
        about("Promise 5: IllegalArgumentException when minutes is not -900 .. 900");
        taken("minutes -900", 1, y -> y.zone(1, 0, -900));
        taken("minutes 900", 1, y -> y.zone(1, 0, 900));
        for (int minutes : new int[] {-901, 901, Integer.MIN_VALUE, Integer.MAX_VALUE}) {
            noNumber("minutes " + minutes + " instead of a row", y -> y.zone(1, 0, minutes));
            noNumber("minutes " + minutes + " of a new row", y -> y.zone(99, 0, minutes));
        }
        lineOf(127, 0, 60000, 60000, 1, 70000, 70000);
        x.zone(0, 0, 900);
        x.zone(1, 0, -900);
        best(0, 1, 0, 124000, "0 0 0 1 6000 124000");
    }

    private void room() {
        about("Promise 5: UnsupportedOperationException when there would be more than 100 rows of all places",
                Promise05ZoneTest::hundredRows);
        noRoom("of a place without any", y -> y.zone(99, 0, 0));
        noRoom("of a place with one", y -> y.zone(1, 1, 0));
        noRoom("from the last second", y -> y.zone(0, 2000000000, 0));
        about("Promise 5: instead of one there is always room", Promise05ZoneTest::hundredRows);
        taken("from the same second", 1, y -> y.zone(1, 0, 20));
        idle("as before", 1, y -> y.zone(1, 0, 10));
        about("Promise 5: there is room for the hundredth, all of one place");
        for (int i = 0; i < 100; i++) {
            same("row " + i, x.zone(7, 10L * i, i), i + 1);
        }
        throwsOf(ROOM, "one more", y -> y.zone(7, 5, 0));
        throwsOf(ROOM, "one more of another place", y -> y.zone(8, 5, 0));
        same("instead of the first", x.zone(7, 0, 1), 100);
        same("instead of the last", x.zone(7, 990, 1), 100);
        about("Promise 5: there is room for the hundredth, one of each place");
        for (int i = 0; i < 100; i++) {
            same("row of " + i, x.zone(i, 5, i), 1);
        }
        throwsOf(ROOM, "one more", y -> y.zone(99, 6, 0));
        about("Promise 5: the room of exceptions and of words is not that of rows", Promise05ZoneTest::hundredRows);
        taken("an exception", 2, y -> y.exception(0, 0, false));
        taken("a word", 2, y -> y.change(0, 0, 0, 0));
    }

    private void whichFirst() {
        about("Promise 5: of several exceptions the one named first", Promise05ZoneTest::hundredRows);
        noIndex("no place, bad numbers, no room", y -> y.zone(100, -1, 901));
        noIndex("no place, no room", y -> y.zone(-1, 0, 0));
        noNumber("a bad from, no room", y -> y.zone(99, -1, 0));
        noNumber("bad minutes, no room", y -> y.zone(99, 0, 901));
        about("Promise 5: of several exceptions the one named first, where there is room");
        noIndex("no place, a bad from", y -> y.zone(100, 2000000001, 0));
        noIndex("no place, bad minutes", y -> y.zone(100, 0, -901));
    }

    public static void main(String[] args) {
        Promise05ZoneTest test = new Promise05ZoneTest();
        test.aRowMore();
        test.insteadOfOne();
        test.bounds();
        test.room();
        test.whichFirst();
        test.end();
    }
}
