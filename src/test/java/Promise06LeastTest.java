/** Promise 6: least. */
final class Promise06LeastTest extends Bench {
    private void fromNowOn() {
        about("Promise 6: a place's CHANGE from now on: that before");
        same("before the first", x.least(5, 7), 0);
        same("before the second", x.least(5, 100000), 7);
        same("before the third", x.least(5, 100000), 100000);
        same("before the fourth", x.least(5, 0), 100000);
        same("before the fifth", x.least(5, 1), 0);
        same("another place's", x.least(6, 1), 0);
        about("Promise 6: it is that place's alone");
        lineOf(127, 0, 0, 0, 1, 100, 100);
        lineOf(127, 1, 100, 100, 2, 200, 200);
        x.least(0, 100000);
        x.least(2, 100000);
        earliest(0, 2, 0, 200);
        about("Promise 6: it is for ways asked from now on");
        lineOf(127, 0, 0, 0, 1, 100, 100);
        lineOf(127, 1, 150, 150, 2, 200, 200);
        String[] sameDay = {"0 0 0 1 0 100", "1 0 0 1 150 200"};
        best(0, 2, 0, 200, sameDay);
        x.least(1, 51);
        told(sameDay);
        best(0, 2, 0, DAY + 200, "0 0 0 1 0 100", "1 1 0 1 86550 86600");
        x.least(1, 50);
        best(0, 2, 0, 200, sameDay);
        about("Promise 6: the longest change is longer than a day");
        lineOf(127, 0, 0, 0, 1, 0, 0);
        lineOf(127, 1, 13600, 13600, 2, 13601, 13601);
        x.least(1, 100000);
        best(0, 2, 0, DAY + 13601, "0 0 0 1 0 0", "1 1 0 1 100000 100001");
        best(0, 2, 1, 2 * DAY + 13601, "0 1 0 1 86400 86400", "1 2 0 1 186400 186401");
    }

    private void bounds() {
        about("Promise 6: IndexOutOfBoundsException: there is no such place");
        taken("place 0", 0, y -> y.least(0, 1));
        taken("place 99", 0, y -> y.least(99, 1));
        for (int place : new int[] {-1, 100, Integer.MIN_VALUE, Integer.MAX_VALUE}) {
            noIndex("place " + place, y -> y.least(place, 1));
        }
        about("Promise 6: IllegalArgumentException when seconds is not 0 .. 100000");
        taken("0 seconds", 60, y -> y.least(1, 0));
        taken("100000 seconds", 60, y -> y.least(1, 100000));
        for (long seconds : new long[] {-1, 100001, 1L << 32, (1L << 32) + 1, Long.MIN_VALUE, Long.MAX_VALUE}) {
            noNumber(seconds + " seconds", y -> y.least(1, seconds));
        }
        about("Promise 6: of several exceptions the one named first");
        noIndex("no place, bad seconds", y -> y.least(100, 100001));
        noIndex("no place, bad seconds, below", y -> y.least(-1, -1));
    }

    public static void main(String[] args) {
        Promise06LeastTest test = new Promise06LeastTest();
        test.fromNowOn();
        test.bounds();
        test.end();
    }
}
