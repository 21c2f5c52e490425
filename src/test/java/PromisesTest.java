/** The promises one by one: ordinary inputs, the edges that the document names, and wrong inputs. */
final class PromisesTest {
    private static final int DAY = 86400;
    private static final Check CHECK = new Check();

    private static LineTimes x;

    private static void fresh() {
        x = new LineTimes();
    }

    /** A line with these stops, three numbers each: place, arrives, leaves. */
    private static int lineOf(int days, long... stops) {
        int line = x.line(days);
        for (int i = 0; i + 2 < stops.length; i += 3) {
            CHECK.same("stop " + i / 3 + " of line " + line, x.stop(line, (int) stops[i], stops[i + 1], stops[i + 2]), 1);
        }
        return line;
    }

    private static void earliest(String what, int from, int to, long t, long due) {
        CHECK.same(what + ": earliest(" + from + ", " + to + ", " + t + ")", x.earliest(from, to, t), due);
    }

    private static void next(String what, int to, long t, int i, long due) {
        CHECK.same(what + ": next(0, " + to + ", " + t + ", " + i + ")", x.next(0, to, t, i), due);
    }

    /** The legs told, each as line, day, stops of entering and leaving, times. */
    private static void way(String what, String... due) {
        for (int i = 0; i <= due.length; i++) {
            StringBuilder leg = new StringBuilder();
            for (int part = 0; part < 6; part++) {
                leg.append(part == 0 ? "" : " ").append(x.step(i, part));
            }
            CHECK.equal(what + ": leg " + i, leg.toString(), i < due.length ? due[i] : "-1 -1 -1 -1 -1 -1");
        }
    }

    private static void read(String text, int due) {
        for (int i = 0; i < text.length(); i++) {
            x.sign(text.charAt(i));
        }
        CHECK.same("read() of " + text, x.read(), due);
    }

    private static void aNewObject() {
        fresh();
        earliest("new", 0, 1, 0, LineTimes.NONE);
        earliest("new", 7, 7, 1700000000, 1700000000);
        way("new");
        CHECK.same("new: next", x.next(0, 1, 0, 0), -1);
        CHECK.same("new: read", x.read(), 0);
        CHECK.same("new: least", x.least(99, 5), 0);
        CHECK.same("new: zone", x.zone(0, 0, 0), 1);
        CHECK.noIndex("new: stop", () -> x.stop(0, 0, 0, 0));
        CHECK.noIndex("new: exception", () -> x.exception(0, 0, true));
        CHECK.noIndex("new: change", () -> x.change(0, 0, 0, 0));
        fresh();
        way("new, nothing told");
        CHECK.same("new: first line", x.line(0), 0);
        LineTimes other = new LineTimes();
        CHECK.same("another object's first line", other.line(0), 0);
    }

    private static void line() {
        fresh();
        CHECK.noNumber("line(-1)", () -> x.line(-1));
        CHECK.noNumber("line(128)", () -> x.line(128));
        CHECK.same("line(0)", x.line(0), 0);
        CHECK.same("line(127)", x.line(127), 1);
        for (int i = 2; i < 40; i++) {
            CHECK.same("line more", x.line(1), i);
        }
        CHECK.noRoom("a line too many", () -> x.line(1));
        CHECK.noNumber("a bad line too many", () -> x.line(128));
        CHECK.same("the last line", x.stop(39, 0, 0, 0), 1);
        for (int bit = 0; bit < 7; bit++) {
            fresh();
            lineOf(1 << bit, 0, 100, 100, 1, 200, 200);
            earliest("by day " + bit, 0, 1, 0, bit * DAY + 200);
            earliest("by day, a week on, " + bit, 0, 1, 7 * DAY, (7 + bit) * DAY + 200);
        }
        fresh();
        int byWord = lineOf(0, 0, 100, 100, 1, 200, 200);
        earliest("no days", 0, 1, 0, -1);
        x.exception(byWord, 4, true);
        earliest("by exception alone", 0, 1, 0, 4 * DAY + 200);
    }

    private static void stop() {
        fresh();
        x.line(127);
        CHECK.noIndex("line -1", () -> x.stop(-1, 0, 0, 0));
        CHECK.noIndex("line 1", () -> x.stop(1, 0, 0, 0));
        CHECK.noIndex("place -1", () -> x.stop(0, -1, 0, 0));
        CHECK.noIndex("place 100", () -> x.stop(0, 100, 0, 0));
        CHECK.noIndex("place 100, bad times", () -> x.stop(0, 100, -1, -1));
        CHECK.noNumber("arrives -1", () -> x.stop(0, 0, -1, 0));
        CHECK.noNumber("leaves -1", () -> x.stop(0, 0, 0, -1));
        CHECK.noNumber("arrives 259201", () -> x.stop(0, 0, 259201, 259201));
        CHECK.noNumber("leaves 259201", () -> x.stop(0, 0, 0, 259201));
        CHECK.noNumber("a time that wraps to 0", () -> x.stop(0, 0, 1L << 32, 1L << 32));
        CHECK.same("leaves before it arrives", x.stop(0, 0, 10, 9), 0);
        CHECK.same("the first", x.stop(0, 99, 0, 10), 1);
        CHECK.same("arrives before the one in front leaves", x.stop(0, 1, 9, 20), 0);
        CHECK.same("arrives as the one in front leaves", x.stop(0, 1, 10, 10), 1);
        CHECK.same("the last second", x.stop(0, 2, 259200, 259200), 1);
        earliest("two days under way", 99, 2, 0, 259200);
        way("two days under way", "0 0 0 2 10 259200");
        for (int i = 3; i < 12; i++) {
            CHECK.same("stop more", x.stop(0, i, 259200, 259200), 1);
        }
        CHECK.noRoom("a stop too many", () -> x.stop(0, 0, 259200, 259200));
        CHECK.noRoom("a stop too many, and too early", () -> x.stop(0, 0, 5, 4));
        CHECK.noNumber("a stop too many, and a bad time", () -> x.stop(0, 0, 5, -4));
        earliest("the twelfth stop", 99, 11, 0, 259200);
    }

    private static void exception() {
        fresh();
        lineOf(127, 0, 100, 100, 1, 200, 200);
        x.line(0);
        CHECK.noIndex("line 2", () -> x.exception(2, 0, true));
        CHECK.noIndex("line -1, bad day", () -> x.exception(-1, -1, true));
        CHECK.noNumber("day -1", () -> x.exception(0, -1, true));
        CHECK.noNumber("day 20001", () -> x.exception(0, 20001, true));
        CHECK.noNumber("a day that wraps to 0", () -> x.exception(0, 1L << 32, false));
        earliest("no word was taken", 0, 1, 0, 200);
        CHECK.same("not on day 0", x.exception(0, 0, false), 1);
        earliest("not on day 0", 0, 1, 0, DAY + 200);
        CHECK.same("nor on day 1", x.exception(0, 1, false), 2);
        earliest("nor on day 1", 0, 1, 0, 2 * DAY + 200);
        CHECK.same("but on day 0", x.exception(0, 0, true), 2);
        earliest("but on day 0", 0, 1, 0, 200);
        CHECK.same("another line, the same day", x.exception(1, 0, false), 3);
        earliest("another line's word", 0, 1, 0, 200);
        for (int i = 3; i < 100; i++) {
            CHECK.same("exception more", x.exception(1, 19900 + i, true), i + 1);
        }
        CHECK.noRoom("an exception too many", () -> x.exception(0, 2, false));
        CHECK.noNumber("a bad one too many", () -> x.exception(0, 20001, false));
        earliest("it was not taken", 0, 1, 2 * DAY, 2 * DAY + 200);
        CHECK.same("in place of one when full", x.exception(0, 0, false), 100);
        earliest("in place of one when full", 0, 1, 0, 2 * DAY + 200);
        fresh();
        lineOf(0, 0, 100, 100, 1, 200, 200);
        CHECK.same("day 20000", x.exception(0, 20000, true), 1);
        earliest("no day beyond nine", 0, 1, 1700000000, -1);
    }

    private static void zone() {
        fresh();
        lineOf(127, 0, 100, 100, 1, 10000, 10000);
        CHECK.noIndex("place -1", () -> x.zone(-1, 0, 0));
        CHECK.noIndex("place 100", () -> x.zone(100, -1, 0));
        CHECK.noNumber("from -1", () -> x.zone(1, -1, 0));
        CHECK.noNumber("from 2000000001", () -> x.zone(1, 2000000001L, 0));
        CHECK.noNumber("minutes -901", () -> x.zone(1, 0, -901));
        CHECK.noNumber("minutes 901", () -> x.zone(1, 0, 901));
        earliest("none was taken", 0, 1, 0, 10000);
        CHECK.same("the first holds before all", x.zone(1, 4 * DAY, 10), 1);
        earliest("the first holds before all", 0, 1, 0, 9400);
        CHECK.same("an earlier one told later is the first", x.zone(1, 2 * DAY, 20), 2);
        earliest("an earlier one", 0, 1, 0, 8800);
        earliest("on its day", 0, 1, 2 * DAY, 2 * DAY + 8800);
        earliest("the day before the later one", 0, 1, 3 * DAY, 3 * DAY + 8800);
        earliest("the day of the later one", 0, 1, 4 * DAY, 4 * DAY + 9400);
        CHECK.same("a second behind the day's beginning", x.zone(1, 3 * DAY + 1, 30), 3);
        earliest("not yet", 0, 1, 3 * DAY, 3 * DAY + 8800);
        CHECK.same("instead of one", x.zone(1, 2 * DAY, -20), 3);
        earliest("instead of one", 0, 1, 0, 11200);
        CHECK.same("another place has its own", x.zone(0, 0, 900), 1);
        earliest("before time 0 on day 0", 0, 1, 0, DAY + 11200);
        way("the day is the run's", "0 1 0 1 " + (DAY + 100 - 54000) + " " + (DAY + 11200));
        for (int i = 4; i < 100; i++) {
            CHECK.same("row more", x.zone(2, 2000000000 - i, -900), i - 3);
        }
        CHECK.noRoom("a row too many", () -> x.zone(3, 0, 0));
        CHECK.noNumber("a bad row too many", () -> x.zone(3, 0, 901));
        CHECK.same("instead of one when full", x.zone(0, 0, 0), 1);
        earliest("instead of one when full", 0, 1, 0, 11200);
        CHECK.same("the last second is taken", new LineTimes().zone(99, 2000000000, 900), 1);
    }

    private static void least() {
        fresh();
        CHECK.noIndex("place -1", () -> x.least(-1, 0));
        CHECK.noIndex("place 100", () -> x.least(100, -1));
        CHECK.noNumber("seconds -1", () -> x.least(1, -1));
        CHECK.noNumber("seconds 100001", () -> x.least(1, 100001));
        CHECK.noNumber("seconds that wrap to 0", () -> x.least(1, 1L << 32));
        CHECK.same("at first", x.least(1, 50), 0);
        CHECK.same("then", x.least(1, 100000), 50);
        CHECK.same("then", x.least(1, 50), 100000);
        lineOf(127, 0, 0, 0, 1, 100, 100);
        lineOf(127, 1, 149, 149, 2, 200, 200);
        lineOf(127, 1, 150, 150, 2, 300, 300);
        x.least(0, 1000);
        x.least(2, 1000);
        earliest("the change is kept, at that place alone", 0, 2, 0, 300);
        x.least(1, 49);
        earliest("a shorter change", 0, 2, 0, 200);
        x.least(1, 51);
        earliest("a longer change", 0, 2, 0, DAY + 200);
    }

    private static void change() {
        fresh();
        lineOf(127, 0, 100, 100, 1, 200, 210, 2, 300, 300);
        CHECK.noIndex("line -1", () -> x.change(-1, 0, 0, 0));
        CHECK.noIndex("line 1", () -> x.change(1, 0, 0, 0));
        CHECK.noIndex("stop -1", () -> x.change(0, -1, 0, 0));
        CHECK.noIndex("stop 3, bad numbers", () -> x.change(0, 3, -1, -1));
        CHECK.noNumber("by -1", () -> x.change(0, 0, -1, 0));
        CHECK.noNumber("by 100001", () -> x.change(0, 0, 100001, 0));
        CHECK.noNumber("day -1", () -> x.change(0, 0, 0, -1));
        CHECK.noNumber("day 20001", () -> x.change(0, 0, 0, 20001));
        earliest("none was taken", 0, 2, 0, 300);
        CHECK.same("late from stop 1 on", x.change(0, 1, 7, 0), 1);
        earliest("not in front of it", 0, 1, 0, 207);
        way("not in front of it", "0 0 0 1 100 207");
        earliest("at it and behind it", 1, 2, 0, 307);
        way("at it and behind it", "0 0 1 2 217 307");
        CHECK.same("besides", x.change(0, 2, 10, 0), 2);
        CHECK.same("besides, the same word", x.change(0, 2, 10, 0), 3);
        earliest("they add up", 0, 2, 0, 327);
        earliest("not before the stop", 0, 1, 0, 207);
        earliest("on that day alone", 0, 2, DAY, DAY + 300);
        CHECK.same("a later stop comes", x.stop(0, 3, 400, 400), 1);
        earliest("a later stop is late too", 0, 3, 0, 427);
        CHECK.same("a first stop late", x.change(0, 0, 100000, 1), 4);
        earliest("a first stop late, the next day's run is earlier", 0, 1, DAY, 2 * DAY + 200);
        x.exception(0, 2, false);
        earliest("a first stop late", 0, 1, DAY, DAY + 100200);
        x.exception(0, 2, true);
        CHECK.same("none at all counts", x.change(0, 0, 0, 20000), 5);
        for (int i = 5; i < 100; i++) {
            CHECK.same("word more", x.change(0, 0, 0, 0), i + 1);
        }
        CHECK.noRoom("a word too many", () -> x.change(0, 0, 5, 2));
        CHECK.noNumber("a bad word too many", () -> x.change(0, 0, -5, 2));
        earliest("it was not taken", 0, 1, 2 * DAY, 2 * DAY + 200);
    }

    private static void earliestOfOneLine() {
        fresh();
        lineOf(127, 0, 100, 200, 1, 1000, 1100, 2, 1100, 1100);
        CHECK.noIndex("from -1", () -> x.earliest(-1, 0, 0));
        CHECK.noIndex("from 100", () -> x.earliest(100, 0, 0));
        CHECK.noIndex("to -1", () -> x.earliest(0, -1, 0));
        CHECK.noIndex("to 100, bad time", () -> x.earliest(0, 100, -1));
        CHECK.noNumber("t -1", () -> x.earliest(0, 1, -1));
        CHECK.noNumber("t 1700000001", () -> x.earliest(0, 0, 1700000001L));
        earliest("as it leaves", 0, 2, 200, 1100);
        earliest("a second late", 0, 2, 201, DAY + 1100);
        earliest("back", 2, 0, 0, -1);
        way("back");
        // The last t is on day 19675, at 80000.
        earliest("at the last t", 0, 1, 1700000000, 19676 * DAY + 1000);
        earliest("to itself", 0, 0, 77, 77);
        way("to itself");
    }

    private static void earliestOfDays() {
        fresh();
        lineOf(0, 0, 259200, 259200, 1, 259200, 259200);
        x.exception(0, 2, true);
        earliest("a run of three days before", 0, 1, 5 * DAY, 5 * DAY);
        way("a run of three days before", "0 2 0 1 432000 432000");
        x.change(0, 0, 100000, 2);
        earliest("still of three days before", 0, 1, 6 * DAY - 1, 2 * DAY + 359200);
        earliest("of four days before", 0, 1, 6 * DAY, -1);
        x.exception(0, 2, false);
        x.exception(0, 15, true);
        earliest("of nine days behind", 0, 1, 6 * DAY, 18 * DAY);
        earliest("of ten days behind", 0, 1, 6 * DAY - 1, -1);
        fresh();
        lineOf(127, 0, 54000, 54000, 1, 54000, 54000);
        x.zone(0, 0, 900);
        earliest("no run of days below 0", 0, 1, 0, 54000);
        way("its day is 0", "0 0 0 1 0 54000");
        earliest("a run of the day after", 0, 1, 1, DAY + 54000);
    }

    private static void earliestByClocks() {
        fresh();
        lineOf(127, 0, 1000, 1000, 1, 2000, 2000, 2, 9000, 9000);
        x.zone(1, 0, 17);
        earliest("arrives before it leaves", 0, 1, 0, -1);
        earliest("the stop behind it", 0, 2, 0, 9000);
        earliest("from the early stop", 1, 2, 0, 9000);
        way("from the early stop", "0 0 1 2 980 9000");
        x.zone(1, 0, 16);
        earliest("arrives behind its leaving", 0, 1, 0, 1040);
        x.change(0, 0, 40, 0);
        earliest("late at both", 0, 1, 0, 1080);
        fresh();
        lineOf(127, 0, 600, 600, 1, 1200, 1200);
        x.zone(1, 0, 10);
        earliest("arrives as it leaves", 0, 1, 0, 600);
    }

    private static void bestWays() {
        fresh();
        lineOf(127, 0, 0, 0, 1, 100, 100);
        lineOf(127, 1, 100, 100, 2, 300, 300);
        lineOf(127, 0, 50, 50, 2, 300, 300);
        earliest("fewest legs of the first to arrive", 0, 2, 0, 300);
        way("fewest legs of the first to arrive", "2 0 0 1 50 300");
        lineOf(127, 0, 0, 0, 2, 300, 300);
        earliest("the least line", 0, 2, 0, 300);
        way("the least line", "2 0 0 1 50 300");
        earliest("the only one in time", 0, 2, 60, DAY + 300);

        fresh();
        lineOf(127, 0, 100, 100, 1, DAY + 200, DAY + 200);
        x.change(0, 0, DAY, 0);
        earliest("the least day", 0, 1, 0, DAY + 200 + DAY);
        way("the least day", "0 0 0 1 " + (DAY + 100) + " " + (2 * DAY + 200));

        fresh();
        lineOf(127, 0, 0, 0, 0, 10, 10, 1, 100, 100, 1, 100, 100);
        earliest("the least stops", 0, 1, 0, 100);
        way("the least stops", "0 0 0 2 0 100");
        earliest("the least stop left before the least entered", 0, 1, 1, 100);
        way("the least stop left before the least entered", "0 0 1 2 10 100");

        fresh();
        lineOf(127, 2, 500, 500, 3, 600, 600);
        lineOf(127, 0, 0, 0, 2, 300, 300);
        lineOf(127, 0, 0, 0, 2, 200, 200);
        lineOf(127, 0, 0, 0, 2, 200, 200);
        earliest("the legs before are the best way too", 0, 3, 0, 600);
        way("the legs before are the best way too", "2 0 0 1 0 200", "0 0 0 1 500 600");

        fresh();
        lineOf(127, 0, 0, 0, 1, 50, 50);
        lineOf(127, 1, 60, 60, 2, 70, 70);
        lineOf(127, 0, 0, 0, 2, 90, 90);
        lineOf(127, 2, 95, 95, 3, 99, 99);
        earliest("not the first at the change, but with one leg less", 0, 3, 0, 99);
        way("not the first at the change, but with one leg less", "2 0 0 1 0 90", "3 0 0 1 95 99");
    }

    private static void changes() {
        fresh();
        lineOf(127, 0, 0, 0, 1, 100, 100);
        lineOf(127, 1, 100, 100, 2, 200, 200);
        earliest("a change of no time", 0, 2, 0, 200);
        way("a change of no time", "0 0 0 1 0 100", "1 0 0 1 100 200");
        x.least(1, 1);
        earliest("a change of a second", 0, 2, 0, DAY + 200);
        way("a change of a second", "0 0 0 1 0 100", "1 1 0 1 86500 86600");
        x.least(0, 5);
        earliest("no change at the first place", 0, 1, 0, 100);

        fresh();
        for (int i = 0; i < 7; i++) {
            lineOf(127, i, i, i, i + 1, i + 1, i + 1);
        }
        earliest("six legs", 0, 6, 0, 6);
        way("six legs", "0 0 0 1 0 1", "1 0 0 1 1 2", "2 0 0 1 2 3", "3 0 0 1 3 4", "4 0 0 1 4 5", "5 0 0 1 5 6");
        earliest("seven legs", 0, 7, 0, -1);
        way("seven legs");
        earliest("six of the seven", 1, 7, 0, 7);
        lineOf(127, 0, 0, 0, 6, 9, 9);
        earliest("a way of fewer legs that arrives later", 0, 7, 0, DAY + 7);
        way("a way of fewer legs that arrives later", "7 0 0 1 0 9", "6 1 0 1 86406 86407");
    }

    private static void step() {
        fresh();
        lineOf(127, 0, 100, 200, 1, 300, 400);
        way("nothing told");
        earliest("told", 0, 1, 0, 300);
        String leg = "0 0 0 1 200 300";
        way("told", leg);
        CHECK.noNumber("what -1", () -> x.step(0, -1));
        CHECK.noNumber("what 6", () -> x.step(0, 6));
        CHECK.noNumber("what 6 of no leg", () -> x.step(9, 6));
        CHECK.same("leg -1", x.step(-1, 0), -1);
        CHECK.same("leg of the least number", x.step(Integer.MIN_VALUE, 5), -1);
        CHECK.same("leg of the last number", x.step(Integer.MAX_VALUE, 5), -1);
        x.zone(0, 0, 2);
        x.change(0, 0, 50, 0);
        x.exception(0, 0, false);
        x.least(1, 10);
        x.next(0, 1, 0, 3);
        read("L1;S5 1 1;S6 2 2", 1);
        way("as it was told then", leg);
        CHECK.noIndex("a call that throws", () -> x.earliest(0, 100, 0));
        CHECK.noNumber("a call that throws", () -> x.earliest(0, 1, -1));
        way("behind calls that throw", leg);
        earliest("none", 1, 0, 0, -1);
        way("none");
        earliest("told again", 0, 1, 0, DAY + 300);
        way("told again", "0 1 0 1 86480 86700");
        earliest("to itself", 1, 1, 0, 0);
        way("to itself");
    }

    private static void days() {
        fresh();
        int[] due = {31, 28, 31, 30, 31, 30, 31, 31, 30, 31, 30, 31};
        for (int month = 1; month <= 12; month++) {
            CHECK.same("month " + month + " of 2023", x.days(month, 2023), due[month - 1]);
            CHECK.same("month " + month + " of 2024", x.days(month, 2024), due[month - 1] + (month == 2 ? 1 : 0));
        }
        int[] leap = {2000, 1600, 0, -4, -400, -2000, 4, Integer.MIN_VALUE};
        for (int year : leap) {
            CHECK.same("February " + year, x.days(2, year), 29);
        }
        int[] common = {1900, 2100, 1, -1, -100, -300, 2023, Integer.MAX_VALUE};
        for (int year : common) {
            CHECK.same("February " + year, x.days(2, year), 28);
        }
        int[] none = {0, 13, -1, Integer.MIN_VALUE, Integer.MAX_VALUE};
        for (int month : none) {
            CHECK.thrown("month " + month, ArrayIndexOutOfBoundsException.class, () -> x.days(month, 2000));
        }
    }

    private static void next() {
        fresh();
        lineOf(127, 0, 100, 200, 1, 300, 300, 1, 400, 400);
        lineOf(1, 0, 150, 150, 1, 200, 200);
        CHECK.noIndex("from -1", () -> x.next(-1, 0, 0, 0));
        CHECK.noIndex("to 100, all bad", () -> x.next(0, 100, -1, -1));
        CHECK.noNumber("t -1", () -> x.next(0, 1, -1, 0));
        CHECK.noNumber("t 1700000001", () -> x.next(0, 1, 1700000001L, 0));
        CHECK.noNumber("i -1", () -> x.next(0, 1, 0, -1));
        CHECK.noNumber("i 101", () -> x.next(0, 1, 0, 101));
        next("the first", 1, 0, 0, 150);
        next("then", 1, 0, 1, 200);
        next("the same run, left later", 1, 0, 2, 200);
        next("the next day", 1, 0, 3, DAY + 200);
        next("as it leaves", 1, 150, 0, 150);
        next("a second late", 1, 151, 0, 200);
        next("the last of day 9", 1, 0, 21, 9 * DAY + 200);
        next("there are not so many", 1, 0, 22, -1);
        next("there are not so many", 1, 0, 100, -1);
        next("to nowhere", 2, 0, 0, -1);
        next("to itself without a leg", 0, 0, 0, -1);
        CHECK.same("to itself by a leg", x.next(1, 1, 0, 0), 300);
        earliest("a way", 0, 1, 0, 200);
        x.next(0, 1, 5 * DAY, 0);
        way("next tells no way", "1 0 0 1 150 200");
        x.zone(0, 0, -2);
        next("a leg that arrives before it leaves", 1, 0, 0, 320);
        fresh();
        for (int i = 0; i < 11; i++) {
            lineOf(127, 0, 50 - i, 50 - i, 1, 100, 100);
        }
        next("the 101st", 1, 0, 100, 9 * DAY + 41);
        next("the 101st of more", 1, 3 * DAY, 100, 12 * DAY + 41);
        next("the 12th", 1, 0, 11, DAY + 40);
    }

    private static void nextOfDays() {
        fresh();
        lineOf(0, 0, 259200, 259200, 1, 259200, 259200);
        x.exception(0, 2, true);
        next("a run of three days before, arriving as it leaves", 1, 5 * DAY, 0, 5 * DAY);
        x.change(0, 0, 100000, 2);
        next("still of three days before", 1, 6 * DAY - 1, 0, 2 * DAY + 359200);
        next("of four days before", 1, 6 * DAY, 0, -1);
        x.exception(0, 15, true);
        next("of nine days behind", 1, 6 * DAY, 0, 18 * DAY);
        next("of ten days behind", 1, 6 * DAY - 1, 1, -1);
    }

    private static void sign() {
        fresh();
        CHECK.noNumber("sign(31)", () -> signed(31));
        CHECK.noNumber("sign(127)", () -> signed(127));
        CHECK.noNumber("sign(-1)", () -> signed(-1));
        CHECK.noNumber("a sign that wraps to L", () -> signed(65536 + 'L'));
        CHECK.same("none was taken", x.read(), 0);
        signed(32);
        CHECK.same("a blank", x.read(), -1);
        signed(126);
        CHECK.same("a tilde", x.read(), -1);
        String stops = ";S2 000000 000000".repeat(12);
        String text = "L0" + stops + ";L0" + stops + ";L0".repeat(29);
        CHECK.same("the length of the longest text", text.length(), 500);
        for (int i = 0; i < 500; i++) {
            signed(text.charAt(i));
        }
        CHECK.noRoom("sign 501", () -> signed('L'));
        CHECK.noNumber("a bad sign 501", () -> signed(31));
        CHECK.same("the longest text", x.read(), 31);
        signed('L');
        CHECK.same("room again", x.read(), -2);
    }

    private static long signed(int c) {
        x.sign(c);
        return 0;
    }

    private static void readGood() {
        fresh();
        read("", 0);
        read("L127;S5 100 200;S7 4000 4000;L1", 2);
        earliest("read", 5, 7, 0, 4000);
        way("read", "0 0 0 1 200 4000");
        CHECK.same("the text is empty", x.read(), 0);
        CHECK.same("two lines came", x.line(0), 2);
        CHECK.same("the last one has no stop", x.stop(1, 0, 0, 0), 1);
        read("L000127;S000099 000000 259200;S0 259200 259200", 1);
        earliest("with six digits", 99, 0, 0, 259200);
        read("L0", 1);
        read("L127;S1 5 5;L127;S2 3 3", 2);
    }

    private static void readBad() {
        fresh();
        read(" L1", -1);
        read(";", -1);
        read("l1", -1);
        read("S0 1 1", -1);
        read("L", -2);
        read("Lx", -2);
        read("L;", -2);
        read("L128", -2);
        read("L128;", -2);
        read("L128x", -2);
        read("L1x", -3);
        read("L1 ", -3);
        read("L1;", -4);
        read("L1;;", -4);
        read("L1;x", -4);
        read("L128000x", -2);
        read("L0001270", -8);
        read("L1;S", -5);
        read("L1;S ", -5);
        read("L1;S5", -6);
        read("L1;S5;", -6);
        read("L1;S100", -5);
        read("L1;S100 1 1", -5);
        read("L1;S5 ", -7);
        read("L1;S5  ", -7);
        read("L1;S5 1", -8);
        read("L1;S5 1;", -8);
        read("L1;S5 259201 259201", -7);
        read("L1;S5 999999", -7);
        read("L1;S5 1 ", -9);
        read("L1;S5 2 1", -9);
        read("L1;S5 2 1x", -9);
        read("L1;S5 2 259201", -9);
        read("L1;S5 1 1 ", -10);
        read("L1;S5 1 1L", -10);
        read("L1;S5 1 000001", 1);
        read("L1;S5 1 0000012", -15);
        read("L1;S5 1 3;S6 2 4", -14);
        read("L1;S5 1 3;S6 2 1", -14);
        read("L1;S5 1 3;S6 3 2", -16);
        read("L1;S5 1 3;L1;S6 2 4", 2);
        read("L1;-1", -4);
    }

    private static void readChangesNothing() {
        fresh();
        lineOf(127, 0, 10, 10);
        read("S1 20 20", -1);
        read("L127;S0 10 10;S1 20 20;L128", -25);
        CHECK.same("no line came", x.line(0), 1);
        earliest("no stop came", 0, 1, 0, -1);
        CHECK.same("the text is empty", x.read(), 0);
        read("L1", 1);
        read("L1;S0 1 1" + ";S0 1 1".repeat(11), 1);
        read("L1;S0 1 1" + ";S0 1 1".repeat(11) + ";Sx", -88);
        CHECK.same("four lines before", x.line(0), 4);
        read("L1" + ";L1".repeat(35), -106);
        CHECK.same("none came", x.line(0), 5);
        read("L1" + ";L1".repeat(33), 34);
        read("L1", -1);
        read("Lx", -1);
        CHECK.noRoom("as for line", () -> x.line(0));
    }

    public static void main(String[] args) {
        aNewObject();
        line();
        stop();
        exception();
        zone();
        least();
        change();
        earliestOfOneLine();
        earliestOfDays();
        earliestByClocks();
        bestWays();
        changes();
        step();
        days();
        next();
        nextOfDays();
        sign();
        readGood();
        readBad();
        readChangesNothing();
        CHECK.end();
    }
}
