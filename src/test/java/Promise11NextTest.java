/** Promise 11: next. */
final class Promise11NextTest extends Bench {
    private void inOrder() {
        about("Promise 11: when the i-th (0 the first) of the legs leaves, in the order of leaving");
        lineOf(127, 0, 500, 500, 1, 600, 600);
        lineOf(127, 0, 300, 300, 1, 900, 900);
        lineOf(1, 0, 400, 400, 1, 450, 450);
        next(0, 1, 0, 0, 300);
        next(0, 1, 0, 1, 400);
        next(0, 1, 0, 2, 500);
        next(0, 1, 0, 3, DAY + 300);
        next(0, 1, 0, 4, DAY + 500);
        about("Promise 11: then arriving, then lines, days, stops: legs that leave together are all counted");
        lineOf(127, 0, 300, 300, 1, 900, 900);
        lineOf(127, 0, 300, 300, 1, 600, 600, 1, 700, 700);
        lineOf(127, 0, 300, 300, 1, 600, 600);
        for (int i = 0; i < 4; i++) {
            next(0, 1, 0, i, 300);
        }
        next(0, 1, 0, 4, DAY + 300);
        about("Promise 11: runs of two days that leave together are both counted");
        lineOf(127, 0, 300, 300, 1, 900, 900);
        x.change(0, 0, DAY, 0);
        next(0, 1, 0, 0, DAY + 300);
        next(0, 1, 0, 1, DAY + 300);
        next(0, 1, 0, 2, 2 * DAY + 300);
        about("Promise 11: each stop of entering and each of leaving makes a leg");
        lineOf(127, 0, 100, 100, 0, 200, 200, 1, 300, 300, 0, 350, 350, 1, 400, 400);
        long[] due = {100, 100, 200, 200, 350, DAY + 100};
        for (int i = 0; i < due.length; i++) {
            next(0, 1, 0, i, due[i]);
        }
    }

    private void atTOrLater() {
        about("Promise 11: legs that leave at t or later");
        lineOf(127, 0, 100, 200, 1, 300, 300);
        next(0, 1, 199, 0, 200);
        next(0, 1, 200, 0, 200);
        next(0, 1, 201, 0, DAY + 200);
        next(0, 1, 200, 1, DAY + 200);
        about("Promise 11: only legs without a change");
        lineOf(127, 0, 0, 0, 1, 100, 100);
        lineOf(127, 1, 100, 100, 2, 200, 200);
        next(0, 2, 0, 0, NONE);
        about("Promise 11: of the same runs as for a way from t: 3 days before to 9 behind");
        lineOf(127, 0, 0, 0, 1, 259200, 259200);
        for (int i = 0; i < 10; i++) {
            next(0, 1, 20 * DAY, i, (20L + i) * DAY);
        }
        next(0, 1, 20 * DAY, 10, NONE);
        next(0, 1, 20 * DAY + 1, 8, 29L * DAY);
        next(0, 1, 20 * DAY + 1, 9, NONE);
        about("Promise 11: of the same runs as for a way from t: thirteen of them, late enough");
        lineOf(127, 0, 259200, 259200, 1, 259200, 259200);
        for (int i = 0; i < 13; i++) {
            next(0, 1, 20 * DAY, i, (20L + i) * DAY);
        }
        next(0, 1, 20 * DAY, 13, NONE);
    }

    private void none() {
        about("Promise 11: NONE when there are not so many: none at all");
        next(0, 1, 0, 0, NONE);
        next(0, 1, 1700000000, 100, NONE);
        about("Promise 11: NONE when there are not so many: the last one and one behind it");
        lineOf(0, 0, 100, 100, 1, 200, 200);
        x.exception(0, 2, true);
        x.exception(0, 4, true);
        next(0, 1, 0, 1, 4 * DAY + 100);
        next(0, 1, 0, 2, NONE);
        next(0, 1, 0, 100, NONE);
        about("Promise 11: NONE when there are not so many: the 101st is the last that can be asked");
        for (int i = 0; i < 10; i++) {
            lineOf(127, 0, 50 - i, 50 - i, 1, 100, 100);
        }
        next(0, 1, 0, 99, 9 * DAY + 50);
        next(0, 1, 0, 100, NONE);
        // Once in the ten days: on day 3.
        lineOf(8, 0, 10, 10, 1, 100, 100);
        next(0, 1, 0, 99, 9 * DAY + 49);
        next(0, 1, 0, 100, 9 * DAY + 50);
        about("Promise 11: of more than 101 the first 101 can be asked");
        for (int i = 0; i < 40; i++) {
            lineOf(127, 0, 5000 - 10 * i, 5000 - 10 * i, 1, 6000, 6000);
        }
        for (int i = 0; i <= 100; i++) {
            next(0, 1, 0, i, (long) (i / 40) * DAY + 4610 + 10 * (i % 40));
        }
        about("Promise 11: from a place to itself only by a leg");
        lineOf(127, 0, 100, 100, 1, 200, 200, 1, 300, 300);
        next(0, 0, 0, 0, NONE);
        next(1, 1, 0, 0, 200);
        next(1, 1, 0, 1, DAY + 200);
    }

    private void changesNothing() {
        about("Promise 11 (and 9): it tells no way, and changes nothing");
        idle("a leg", 1000, y -> y.next(0, 1, 0, 0));
        idle("a leg of later days", 12 * DAY + 1000, y -> y.next(0, 2, 5 * DAY, 7));
        idle("no leg", NONE, y -> y.next(3, 0, 0, 0));
        idle("the last i", NONE, y -> y.next(0, 1, 0, 100));
    }

    private void bounds() {
        about("Promise 11: IndexOutOfBoundsException: there is no such place");
        idle("from 99", NONE, y -> y.next(99, 0, 0, 0));
        idle("to 99", NONE, y -> y.next(0, 99, 0, 0));
        for (int place : new int[] {-1, 100, Integer.MIN_VALUE, Integer.MAX_VALUE}) {
            noIndex("from " + place, y -> y.next(place, 0, 0, 0));
            noIndex("to " + place, y -> y.next(0, place, 0, 0));
        }
        about("Promise 11: IllegalArgumentException as earliest: t is not 0 .. 1700000000");
        idle("t 0", 1000, y -> y.next(0, 1, 0, 0));
        idle("t 1700000000", 19676 * DAY + 1000, y -> y.next(0, 1, 1700000000, 0));
        for (long t : new long[] {-1, 1700000001, 1L << 32, (1L << 32) + 1, Long.MIN_VALUE, Long.MAX_VALUE}) {
            noNumber("t " + t, y -> y.next(0, 1, t, 0));
        }
        about("Promise 11: IllegalArgumentException when i is not 0 .. 100");
        idle("i 0", 1000, y -> y.next(0, 1, 0, 0));
        idle("i 100", NONE, y -> y.next(0, 1, 0, 100));
        for (int i : new int[] {-1, 101, Integer.MIN_VALUE, Integer.MAX_VALUE}) {
            noNumber("i " + i, y -> y.next(0, 1, 0, i));
            noNumber("i " + i + " where there is no leg", y -> y.next(50, 51, 0, i));
        }
        about("Promise 11: of several exceptions the one named first");
        noIndex("from nowhere, a bad t", y -> y.next(100, 0, -1, 0));
        noIndex("to nowhere, a bad i", y -> y.next(0, 100, 0, 101));
        noIndex("all bad", y -> y.next(-1, -1, -1, -1));
    }

    public static void main(String[] args) {
        Promise11NextTest test = new Promise11NextTest();
        test.inOrder();
        test.atTOrLater();
        test.none();
        test.changesNothing();
        test.bounds();
        test.end();
    }
}
