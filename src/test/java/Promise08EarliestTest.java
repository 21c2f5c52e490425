/** Promise 8: earliest, and THE BEST way of 'Terms'. */
final class Promise08EarliestTest extends Bench {
    private void none() {
        about("Promise 8: NONE when there is none: no line");
        best(0, 1, 0, NONE);
        about("Promise 8: NONE when there is none: lines without stops, or with one");
        lineOf(127);
        lineOf(127, 0, 100, 100);
        lineOf(127, 1, 200, 200);
        best(0, 1, 0, NONE);
        about("Promise 8: NONE when there is none: the other way round");
        lineOf(127, 0, 100, 100, 1, 200, 200);
        best(1, 0, 0, NONE);
        about("Promise 8: NONE when there is none: no run on the days that count");
        lineOf(0, 0, 100, 100, 1, 200, 200);
        best(0, 1, 0, NONE);
        about("Promise 8: NONE when there is none: the last run that counts has left");
        lineOf(0, 0, 100, 100, 1, 200, 200);
        x.exception(0, 5, true);
        earliest(0, 1, 5 * DAY + 100, 5 * DAY + 200);
        best(0, 1, 5 * DAY + 101, NONE);
        about("Promise 8: NONE when there is none: the change is missed on the last day that counts");
        lineOf(0, 0, 0, 0, 1, 100, 100);
        lineOf(0, 1, 100, 100, 2, 200, 200);
        x.exception(0, 9, true);
        x.exception(1, 9, true);
        earliest(0, 2, 0, 9 * DAY + 200);
        x.least(1, 1);
        best(0, 2, 0, NONE);
    }

    private void legsAreTold() {
        about("Promise 8: its legs are told by step then");
        lineOf(127, 0, 100, 200, 1, 1000, 1100);
        lineOf(127, 1, 1100, 1200, 2, 2000, 2000);
        best(0, 2, 0, 2000, "0 0 0 1 200 1000", "1 0 0 1 1200 2000");
        about("Promise 8: with NONE there are none");
        lineOf(127, 0, 100, 200, 1, 1000, 1100);
        best(0, 1, 0, 1000, "0 0 0 1 200 1000");
        best(1, 0, 0, NONE);
        about("Promise 8: where a is b there are none");
        lineOf(127, 0, 100, 200, 1, 1000, 1100);
        best(0, 1, 0, 1000, "0 0 0 1 200 1000");
        best(1, 1, 7, 7);
        best(0, 1, 0, 1000, "0 0 0 1 200 1000");
        best(50, 50, 0, 0);
        about("Promise 8: a way of fewer legs leaves none of the one before");
        for (int i = 0; i < 6; i++) {
            lineOf(127, i, i, i, i + 1, i + 1, i + 1);
        }
        earliest(0, 6, 0, 6);
        same("its sixth leg", x.step(5, 0), 5);
        best(0, 1, 0, 1, "0 0 0 1 0 1");
        same("no sixth leg", x.step(5, 0), NONE);
    }

    private void bounds() {
        about("Promise 8: IndexOutOfBoundsException: there is no such place");
        taken("from 99", NONE, y -> y.earliest(99, 0, 0));
        taken("to 99", NONE, y -> y.earliest(0, 99, 0));
        for (int place : new int[] {-1, 100, Integer.MIN_VALUE, Integer.MAX_VALUE}) {
            noIndex("from " + place, y -> y.earliest(place, 0, 0));
            noIndex("to " + place, y -> y.earliest(0, place, 0));
            noIndex("from and to " + place, y -> y.earliest(place, place, 0));
        }
        about("Promise 8: IllegalArgumentException when t is not 0 .. 1700000000");
        taken("t 0", 4430, y -> y.earliest(0, 1, 0));
        taken("t 1700000000, to itself", 1700000000, y -> y.earliest(0, 0, 1700000000));
        // The last t is on day 19675, at 80000.
        taken("t 1700000000", 19676L * DAY + 4400, y -> y.earliest(0, 1, 1700000000));
        for (long t : new long[] {-1, 1700000001, 1L << 32, (1L << 32) + 1, Long.MIN_VALUE, Long.MAX_VALUE}) {
            noNumber("t " + t, y -> y.earliest(0, 1, t));
            noNumber("t " + t + ", to itself", y -> y.earliest(1, 1, t));
        }
        about("Promise 8: of several exceptions the one named first");
        noIndex("from nowhere, a bad t", y -> y.earliest(100, 0, -1));
        noIndex("to nowhere, a bad t", y -> y.earliest(0, -1, 1700000001));
        noIndex("from nowhere to itself, a bad t", y -> y.earliest(100, 100, -1));
        about("Promise 8: a call that throws leaves the legs told before");
        lineOf(127, 0, 100, 200, 1, 1000, 1100);
        String leg = "0 0 0 1 200 1000";
        best(0, 1, 0, 1000, leg);
        throwsOf(INDEX, "from nowhere", y -> y.earliest(100, 1, 0));
        told(leg);
        throwsOf(NUMBER, "a bad t", y -> y.earliest(1, 0, -1));
        told(leg);
        throwsOf(NUMBER, "a bad t, to itself", y -> y.earliest(1, 1, 1700000001));
        told(leg);
    }

    private void arrivesFirst() {
        about("Promise 8: THE BEST one arrives first, though it has more legs");
        lineOf(127, 0, 0, 0, 2, 300, 300);
        lineOf(127, 0, 0, 0, 1, 100, 100);
        lineOf(127, 1, 100, 100, 2, 299, 299);
        best(0, 2, 0, 299, "1 0 0 1 0 100", "2 0 0 1 100 299");
        about("Promise 8: THE BEST one arrives first, though it leaves later or is of a later day");
        lineOf(127, 0, 0, 0, 1, 2 * DAY, 2 * DAY);
        lineOf(127, 0, 500, 500, 1, 600, 600);
        best(0, 1, 0, 600, "1 0 0 1 500 600");
        best(0, 1, 501, DAY + 600, "1 1 0 1 86900 87000");
        about("Promise 8: of these it has the fewest legs");
        lineOf(127, 0, 0, 0, 1, 100, 100);
        lineOf(127, 1, 100, 100, 2, 300, 300);
        lineOf(127, 0, 50, 50, 2, 300, 300);
        best(0, 2, 0, 300, "2 0 0 1 50 300");
        best(0, 2, 51, DAY + 300, "2 1 0 1 86450 86700");
    }

    private void leastLine() {
        about("Promise 8: of these the least line of the last leg");
        lineOf(127, 0, 50, 50, 2, 300, 300);
        lineOf(127, 0, 0, 0, 2, 300, 300);
        best(0, 2, 0, 300, "0 0 0 1 50 300");
        about("Promise 8: the least line comes before the least day");
        lineOf(0, 0, 0, 0, 1, 300, 300);
        lineOf(0, 0, 500, 500, 1, DAY + 300, DAY + 300);
        x.exception(0, 1, true);
        x.exception(1, 0, true);
        best(0, 1, 0, DAY + 300, "0 1 0 1 86400 86700");
        about("Promise 8: the least line of the last leg comes before that of the first one");
        lineOf(127, 0, 0, 0, 1, 100, 100);
        lineOf(127, 3, 200, 200, 2, 300, 300);
        lineOf(127, 1, 200, 200, 2, 300, 300);
        lineOf(127, 0, 0, 0, 3, 100, 100);
        best(0, 2, 0, 300, "3 0 0 1 0 100", "1 0 0 1 200 300");
    }

    private void leastDay() {
        about("Promise 8: of these the least day");
        lineOf(127, 0, 100, 100, 1, 200, 200);
        x.change(0, 0, DAY, 0);
        best(0, 1, 0, DAY + 200, "0 0 0 1 86500 86600");
        about("Promise 8: the least day comes before the least stops");
        lineOf(127, 0, 100, 100, 1, 200, 200, 0, 250, 250, 1, 300, 300);
        x.change(0, 2, DAY - 100, 0);
        best(0, 1, 101, DAY + 200, "0 0 2 3 86550 86600");
        x.exception(0, 0, false);
        best(0, 1, 101, DAY + 200, "0 1 0 1 86500 86600");
    }

    private void leastStops() {
        about("Promise 8: of these the least stop at which it is left");
        lineOf(127, 0, 0, 0, 1, 100, 100, 1, 100, 100, 1, 100, 100);
        best(0, 1, 0, 100, "0 0 0 1 0 100");
        about("Promise 8: a stop in front of that at which it is entered is none at which it is left");
        lineOf(127, 1, 100, 100, 0, 100, 100, 1, 100, 100);
        best(0, 1, 0, 100, "0 0 1 2 100 100");
        about("Promise 8: of these the least stop at which it is entered");
        lineOf(127, 0, 0, 0, 0, 10, 10, 0, 20, 20, 1, 100, 100);
        best(0, 1, 0, 100, "0 0 0 3 0 100");
        best(0, 1, 1, 100, "0 0 1 3 10 100");
        best(0, 1, 11, 100, "0 0 2 3 20 100");
        best(0, 1, 21, DAY + 100, "0 1 0 3 86400 86500");
        about("Promise 8: the least stop at which it is entered comes before the legs in front");
        lineOf(127, 3, 50, 50, 1, 60, 60, 2, 100, 100);
        lineOf(127, 0, 0, 0, 1, 20, 20);
        lineOf(127, 0, 0, 0, 3, 40, 40);
        best(0, 2, 0, 100, "2 0 0 1 0 40", "0 0 0 2 50 100");
    }

    private void theLegsBefore() {
        about("Promise 8: the legs before it are the best way to where it is entered");
        lineOf(127, 2, 500, 500, 3, 600, 600);
        lineOf(127, 0, 0, 0, 2, 300, 300);
        lineOf(127, 0, 0, 0, 2, 200, 200);
        lineOf(127, 0, 0, 0, 2, 200, 200);
        best(0, 3, 0, 600, "2 0 0 1 0 200", "0 0 0 1 500 600");
        about("Promise 8: with one leg less, though more legs would be there first");
        lineOf(127, 0, 0, 0, 1, 50, 50);
        lineOf(127, 1, 60, 60, 2, 70, 70);
        lineOf(127, 0, 0, 0, 2, 90, 90);
        lineOf(127, 2, 95, 95, 3, 99, 99);
        best(0, 3, 0, 99, "2 0 0 1 0 90", "3 0 0 1 95 99");
        about("Promise 8: with one leg less, that are needed where fewer are too late");
        lineOf(127, 0, 0, 0, 1, 50, 50);
        lineOf(127, 1, 60, 60, 2, 70, 70);
        lineOf(127, 0, 0, 0, 2, 90, 90);
        lineOf(127, 2, 80, 80, 3, 99, 99);
        best(0, 3, 0, 99, "0 0 0 1 0 50", "1 0 0 1 60 70", "3 0 0 1 80 99");
    }

    public static void main(String[] args) {
        Promise08EarliestTest test = new Promise08EarliestTest();
        test.none();
        test.legsAreTold();
        test.bounds();
        test.arrivesFirst();
        test.leastLine();
        test.leastDay();
        test.leastStops();
        test.theLegsBefore();
        test.end();
    }
}
