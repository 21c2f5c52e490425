/** The sentences of 'What it is' and 'Terms', each by the promises in which it is seen. */
final class TermsTest extends Bench {
    private void use() {
        about("What it is (promises 1 to 13): an object is used for at most 512 calls");
        lineOf(127, 0, 100, 100, 1, 200, 200);
        for (int call = 4; call <= 511; call++) {
            same("call " + call, x.earliest(0, 1, 0), 200);
        }
        same("call 512", x.step(0, 5), 200);
    }

    private void timeAndDays() {
        about("Terms (promise 2): DAY 0 is a Monday");
        lineOf(1, 0, 0, 0, 1, 0, 0);
        earliest(0, 1, 0, 0);
        earliest(0, 1, 1, 7 * DAY);
        about("Terms (promise 2): DAY 6 is a Sunday, and a Monday comes behind it");
        lineOf(64, 0, 0, 0, 1, 0, 0);
        earliest(0, 1, 0, 6 * DAY);
        earliest(0, 1, 6 * DAY, 6 * DAY);
        earliest(0, 1, 6 * DAY + 1, 13 * DAY);

        about("Terms (promise 8): a day has 86400");
        lineOf(127, 0, 0, 0, 1, 0, 0);
        earliest(0, 1, 0, 0);
        earliest(0, 1, 1, 86400);
        earliest(0, 1, 86399, 86400);
        earliest(0, 1, 86400, 86400);
        earliest(0, 1, 86401, 172800);
        about("Terms (promise 8): second 86399 is of day 0, second 86400 of day 1");
        lineOf(0, 0, 0, 0, 1, 0, 0);
        x.exception(0, 10, true);
        earliest(0, 1, 86399, NONE);
        earliest(0, 1, 86400, 864000);
    }

    private void places() {
        about("Terms (promises 3, 8): PLACES are 0 .. 99: the first and the last one");
        lineOf(127, 0, 100, 100, 99, 200, 200, 0, 300, 300);
        earliest(0, 99, 0, 200);
        earliest(99, 0, 0, 300);
        next(0, 99, 0, 0, 100);
        next(99, 0, 0, 0, 200);
        same("zone of 99", x.zone(99, 0, 0), 1);
        same("least of 99", x.least(99, 0), 0);
        about("Terms (promises 3, 5, 6, 8, 11): PLACES are 0 .. 99: -1 and 100 are none");
        for (int place : new int[] {-1, 100, Integer.MIN_VALUE, Integer.MAX_VALUE}) {
            noIndex("stop at " + place, y -> y.stop(0, place, 90000, 90000));
            noIndex("zone of " + place, y -> y.zone(place, 0, 1));
            noIndex("least of " + place, y -> y.least(place, 1));
            noIndex("earliest from " + place, y -> y.earliest(place, 1, 0));
            noIndex("earliest to " + place, y -> y.earliest(1, place, 0));
            noIndex("earliest from and to " + place, y -> y.earliest(place, place, 0));
            noIndex("next from " + place, y -> y.next(place, 1, 0, 0));
            noIndex("next to " + place, y -> y.next(1, place, 0, 0));
        }
    }

    private void zoneRows() {
        about("Terms (promise 5): its clock is so many MINUTES before the time: the times are earlier");
        lineOf(127, 0, 0, 0, 1, 60000, 60000);
        x.zone(1, 0, 900);
        earliest(0, 1, 0, 6000);
        x.zone(1, 0, -900);
        earliest(0, 1, 0, 114000);
        x.zone(1, 0, 1);
        earliest(0, 1, 0, 59940);

        about("Terms (promise 5): on a day the row holds that began last at its beginning");
        lineOf(127, 0, 0, 0, 1, 60000, 60000);
        x.zone(1, 0, 1);
        x.zone(1, 2 * DAY, 2);
        x.zone(1, 4 * DAY + 1, 3);
        x.zone(1, 7 * DAY - 1, 4);
        int[] due = {1, 1, 2, 2, 2, 3, 3, 4, 4};
        for (int day = 0; day < due.length; day++) {
            earliest(0, 1, (long) day * DAY, (long) day * DAY + 60000 - 60 * due[day]);
        }
        about("Terms (promise 5): a row that begins within the day does not hold on it, even where it has begun");
        lineOf(127, 0, 0, 0, 1, 60000, 60000);
        x.zone(1, 0, 1);
        x.zone(1, DAY + 1, 2);
        earliest(0, 1, DAY, DAY + 59940);
        earliest(0, 1, 2 * DAY, 2 * DAY + 59880);
        about("Terms (promise 5): the day is the run's, whatever day its stop's time is on");
        lineOf(127, 0, 0, 0, 1, 2 * DAY, 2 * DAY);
        x.zone(1, 0, 1);
        x.zone(1, DAY, 2);
        earliest(0, 1, 0, 2 * DAY - 60);
        earliest(0, 1, 1, 3 * DAY - 120);
        about("Terms (promise 5): the order in which rows are told is nothing to them");
        lineOf(127, 0, 0, 0, 1, 60000, 60000);
        x.zone(1, 3 * DAY, 3);
        x.zone(1, DAY, 1);
        x.zone(1, 4 * DAY, 4);
        x.zone(1, 2 * DAY, 2);
        for (int day = 1; day < 6; day++) {
            earliest(0, 1, (long) day * DAY, (long) day * DAY + 60000 - 60 * Math.min(day, 4));
        }

        about("Terms (promise 5): the first row holds before all");
        lineOf(127, 0, 0, 0, 1, 60000, 60000);
        x.zone(1, 2000000000, 5);
        earliest(0, 1, 0, 59700);
        x.zone(1, 1999999999, 6);
        earliest(0, 1, 0, 59640);
        x.zone(1, 3 * DAY, 7);
        earliest(0, 1, 2 * DAY, 2 * DAY + 59580);
        earliest(0, 1, 3 * DAY, 3 * DAY + 59580);

        about("Terms (promise 5): a place without any row has 0");
        lineOf(127, 0, 0, 0, 1, 60000, 60000);
        x.zone(2, 0, 900);
        x.zone(99, 0, -900);
        earliest(0, 1, 0, 60000);
    }

    private void lines() {
        about("Terms (promises 2, 13): LINES 0, 1, .. (40 at most), told or read");
        for (int i = 0; i < 20; i++) {
            same("line", x.line(0), i);
        }
        read("L0" + ";L0".repeat(18), 19);
        same("the fortieth", x.line(127), 39);
        same("its stops", x.stop(39, 0, 5, 5) + x.stop(39, 1, 6, 6), 2);
        best(0, 1, 0, 6, "39 0 0 1 5 6");
        throwsOf(ROOM, "line 41", y -> y.line(0));
        read("L0", -1);
        throwsOf(INDEX, "a stop of line 40", y -> y.stop(40, 0, 5, 5));
        about("Terms (promise 2): they run on days of the week told by bits");
        for (int days = 0; days <= 127; days++) {
            x = new LineTimes();
            lineOf(days, 0, 100, 100, 1, 200, 200);
            for (int day = 0; day < 9; day++) {
                // Nine days on there may be another run, so only its day is looked at.
                long arrives = x.earliest(0, 1, (long) day * DAY);
                boolean runs = arrives == (long) day * DAY + 200;
                same("line(" + days + ") on day " + day, runs ? 1 : 0, days >> day % 7 & 1);
            }
        }
    }

    private void exceptionDays() {
        about("Terms (promise 4): on days that are EXCEPTIONS lines run as these say");
        lineOf(1, 0, 100, 100, 1, 200, 200);
        x.exception(0, 0, false);
        x.exception(0, 3, true);
        x.exception(0, 7, true);
        next(0, 1, 0, 0, 3 * DAY + 100);
        next(0, 1, 0, 1, 7 * DAY + 100);
        next(0, 1, 0, 2, NONE);
        about("Terms (promises 2, 8, 11): lines never run on days below 0");
        lineOf(127, 0, 259200, 259200, 1, 259200, 259200);
        best(0, 1, 0, 259200, "0 0 0 1 259200 259200");
        next(0, 1, 0, 0, 259200);
        next(0, 1, 0, 9, 9 * DAY + 259200);
        next(0, 1, 0, 10, NONE);
        about("Terms (promises 2, 8, 11): day 0 has a run, though it may leave before time 0");
        lineOf(127, 0, 54000, 54000, 1, 54000, 54000);
        x.zone(0, 0, 900);
        best(0, 1, 0, 54000, "0 0 0 1 0 54000");
        x.zone(0, 0, 899);
        best(0, 1, 0, 54000, "0 0 0 1 60 54000");
        x.zone(0, 0, 900);
        x.stop(x.line(127), 0, 53999, 53999);
        x.stop(1, 2, 53999, 53999);
        best(0, 2, 0, DAY + 53999, "1 1 0 1 86399 " + (DAY + 53999));
    }

    private void stops() {
        about("Terms (promises 3, 13): STOPS 0, 1, .. (12 at most), told or read");
        read("L127" + ";S0 5 5".repeat(11), 1);
        same("the twelfth", x.stop(0, 1, 6, 6), 1);
        best(0, 1, 0, 6, "0 0 0 11 5 6");
        throwsOf(ROOM, "stop 13", y -> y.stop(0, 2, 7, 7));
        earliest(0, 2, 0, NONE);
        about("Terms (promises 8, 11): a line of 12 stops is looked through to its end");
        read("L127;S10 0 0" + ";S11 5 5".repeat(10) + ";S12 9 9", 1);
        lineOf(127, 0, 100, 100, 1, 200, 200);
        lineOf(127, 12, 100, 100, 10, 200, 200);
        best(0, 1, 0, 200, "1 0 0 1 100 200");
        best(10, 12, 0, 9, "0 0 0 11 0 9");
        best(11, 10, 0, 200, "0 0 1 11 5 9", "2 0 0 1 100 200");
        next(0, 1, 0, 0, 100);
        next(10, 12, 0, 0, 0);
        next(11, 12, 0, 9, 5);
        next(11, 12, 0, 10, DAY + 5);
        next(12, 11, 0, 0, NONE);
        about("Terms (promises 8, 11): a line has no stop behind its last one");
        lineOf(127, 5, 0, 0);
        lineOf(127, 6, 0, 0, 5, 0, 0);
        best(5, 0, 0, NONE);
        best(6, 0, 0, NONE);
        next(5, 0, 0, 0, NONE);
        next(6, 0, 0, 0, NONE);
        next(0, 5, 0, 0, NONE);
    }

    private void late() {
        about("Terms (promise 7): LATE: on a day a stop and all behind it, none in front of it");
        lineOf(127, 0, 100, 110, 1, 200, 210, 2, 300, 310, 3, 400, 410);
        lineOf(127, 4, 100, 110, 5, 200, 210);
        x.change(0, 1, 7, 0);
        best(0, 1, 0, 207, "0 0 0 1 110 207");
        best(1, 2, 0, 307, "0 0 1 2 217 307");
        best(2, 3, 0, 407, "0 0 2 3 317 407");
        best(4, 5, 0, 200, "1 0 0 1 110 200");
        best(0, 3, DAY, DAY + 400, "0 1 0 3 86510 86800");
        about("Terms (promise 7): several of these add up");
        lineOf(127, 0, 100, 110, 1, 200, 210, 2, 300, 310);
        x.change(0, 0, 1, 0);
        x.change(0, 1, 10, 0);
        x.change(0, 1, 10, 0);
        x.change(0, 2, 100, 0);
        best(0, 1, 0, 221, "0 0 0 1 111 221");
        best(1, 2, 0, 421, "0 0 1 2 231 421");
    }

    private void aRun() {
        about("Terms (promises 2, 4, 8, 11): a RUN is a line on a day on which it runs, and on no other day");
        lineOf(5, 0, 100, 100, 1, 200, 200);
        x.exception(0, 2, false);
        x.exception(0, 4, true);
        int[] days = {0, 4, 7, 9};
        for (int i = 0; i < days.length; i++) {
            next(0, 1, 0, i, (long) days[i] * DAY + 100);
            best(0, 1, (long) days[i] * DAY, (long) days[i] * DAY + 200,
                    "0 " + days[i] + " 0 1 " + (days[i] * DAY + 100) + " " + (days[i] * DAY + 200));
        }
        next(0, 1, 0, days.length, NONE);
        about("Terms (promises 3, 8): a stop's times are from the beginning of the day of the run, three days on too");
        lineOf(2, 0, 86399, 86400, 1, 172800, 200000, 2, 259199, 259200);
        best(0, 1, 0, DAY + 172800, "0 1 0 1 " + 2 * DAY + " " + 3 * DAY);
        best(1, 2, 0, DAY + 259199, "0 1 1 2 286400 345599");
    }

    private void times() {
        about("Terms (promises 3, 5, 7, 8): stop i's times: the day's, its own, less the zone's, and late");
        lineOf(0, 0, 1000, 2000, 1, 30000, 40000);
        x.exception(0, 4, true);
        x.zone(0, 0, -7);
        x.zone(1, 0, 11);
        x.change(0, 0, 3, 4);
        x.change(0, 1, 50, 4);
        best(0, 1, 0, 4 * DAY + 30000 - 660 + 53, "0 4 0 1 " + (4 * DAY + 2000 + 420 + 3) + " " + (4 * DAY + 29393));
        about("Terms (promises 3, 5, 7, 8): the latest times that there are");
        int day = 1700000000 / DAY + 9;
        lineOf(0, 0, 259200, 259200, 1, 259200, 259200);
        x.exception(0, day, true);
        x.zone(0, 0, -900);
        x.zone(1, 0, -900);
        for (int i = 0; i < 100; i++) {
            x.change(0, 0, 100000, day);
        }
        int last = 86400 * day + 259200 + 54000 + 100 * 100000;
        best(0, 1, 1700000000, last, "0 " + day + " 0 1 " + last + " " + last);
        next(0, 1, 1700000000, 0, last);
    }

    private void legs() {
        about("Terms (promises 8, 11): a LEG that arrives as it leaves is one");
        lineOf(127, 0, 600, 600, 1, 1200, 1200);
        x.zone(1, 0, 10);
        best(0, 1, 0, 600, "0 0 0 1 600 600");
        next(0, 1, 0, 0, 600);
        about("Terms (promises 8, 11): a LEG does not arrive a second before it leaves");
        lineOf(127, 0, 601, 601, 1, 1200, 1200, 2, 9000, 9000);
        x.zone(1, 0, 10);
        earliest(0, 1, 0, NONE);
        next(0, 1, 0, 0, NONE);
        // The run goes on, past the stop at which nobody could arrive and from it.
        best(0, 2, 0, 9000, "0 0 0 2 601 9000");
        best(1, 2, 0, 9000, "0 0 1 2 600 9000");
        x.change(0, 1, 1, 0);
        best(0, 1, 0, 601, "0 0 0 1 601 601");
        about("Terms (promises 8, 11): a LEG goes from a stop to a later one");
        lineOf(127, 0, 100, 100, 1, 100, 100);
        earliest(1, 0, 0, NONE);
        next(1, 0, 0, 0, NONE);
        next(0, 0, 0, 0, NONE);
    }

    private void way() {
        about("Terms (promise 8): no leg, if a is b, arriving at t");
        lineOf(127, 0, 0, 0, 0, 0, 0, 1, 1, 1);
        best(0, 0, 0, 0);
        best(0, 0, 1700000000, 1700000000);
        best(99, 99, 5, 5);

        about("Terms (promise 8): the first leg is from a, each next one from where the one before ended, the last to b");
        lineOf(127, 0, 0, 0, 1, 100, 100);
        lineOf(127, 2, 200, 200, 3, 300, 300);
        best(0, 3, 0, NONE);
        best(0, 2, 0, NONE);
        best(1, 3, 0, NONE);
        lineOf(127, 1, 110, 110, 2, 190, 190);
        best(0, 3, 0, 300, "0 0 0 1 0 100", "2 0 0 1 110 190", "1 0 0 1 200 300");
        best(1, 3, 0, 300, "2 0 0 1 110 190", "1 0 0 1 200 300");
        best(0, 2, 0, 190, "0 0 0 1 0 100", "2 0 0 1 110 190");
        about("Terms (promise 8): a leg may end before its line does, and begin behind where its line does");
        lineOf(127, 5, 0, 0, 0, 10, 10, 1, 20, 20, 6, 30, 30);
        lineOf(127, 7, 0, 0, 1, 25, 25, 2, 40, 40, 8, 50, 50);
        best(0, 2, 0, 40, "0 0 1 2 10 20", "1 0 1 2 25 40");

        about("Terms (promise 8): the first leg leaves at t or later");
        lineOf(127, 0, 100, 200, 1, 300, 300);
        best(0, 1, 199, 300, "0 0 0 1 200 300");
        best(0, 1, 200, 300, "0 0 0 1 200 300");
        best(0, 1, 201, DAY + 300, "0 1 0 1 86600 86700");

        about("Terms (promises 6, 8): a next leg leaves not before that arrival");
        lineOf(127, 0, 0, 0, 1, 100, 100);
        lineOf(127, 1, 100, 100, 2, 200, 200);
        lineOf(127, 1, 99, 99, 3, 200, 200);
        best(0, 2, 0, 200, "0 0 0 1 0 100", "1 0 0 1 100 200");
        best(0, 3, 0, DAY + 200, "0 0 0 1 0 100", "2 1 0 1 86499 86600");

        about("Terms (promises 6, 8): and not before the place's CHANGE is over");
        lineOf(127, 0, 0, 0, 1, 100, 100);
        lineOf(127, 1, 150, 150, 2, 200, 200);
        x.least(1, 50);
        best(0, 2, 0, 200, "0 0 0 1 0 100", "1 0 0 1 150 200");
        x.least(1, 51);
        best(0, 2, 0, DAY + 200, "0 0 0 1 0 100", "1 1 0 1 86550 86600");

        about("Terms (promises 6, 8): a run that is not left needs no CHANGE, nor do the two ends of a way");
        lineOf(127, 0, 0, 0, 1, 100, 100, 2, 200, 200);
        x.least(0, 100000);
        x.least(1, 100000);
        x.least(2, 100000);
        best(0, 2, 0, 200, "0 0 0 2 0 200");

        about("Terms (promises 6, 8): two runs of one line are changed as two lines are");
        lineOf(127, 1, 100, 100, 2, 200, 200, 0, 300, 300, 1, DAY + 50, DAY + 50);
        x.least(1, 50);
        best(0, 2, 0, DAY + 200, "0 0 2 3 300 86450", "0 1 0 1 86500 86600");
        x.least(1, 51);
        best(0, 2, 0, 2 * DAY + 200, "0 0 2 3 300 86450", "0 2 0 1 172900 173000");
    }

    private void daysThatCount() {
        about("Terms (promises 8, 11): runs of days from three before that of t count");
        lineOf(0, 0, 259200, 259200, 1, 259200, 259200);
        x.exception(0, 2, true);
        x.change(0, 0, 100000, 2);
        long late = 2 * DAY + 359200;
        best(0, 1, 5 * DAY, late, "0 2 0 1 " + late + " " + late);
        best(0, 1, 6 * DAY - 1, late, "0 2 0 1 " + late + " " + late);
        next(0, 1, 6 * DAY - 1, 0, late);
        about("Terms (promises 8, 11): runs of days from four before that of t do not count");
        lineOf(0, 0, 259200, 259200, 1, 259200, 259200);
        x.exception(0, 2, true);
        x.change(0, 0, 100000, 2);
        best(0, 1, 6 * DAY, NONE);
        next(0, 1, 6 * DAY, 0, NONE);
        about("Terms (promises 8, 11): runs of days to nine behind that of t count, ten behind do not");
        lineOf(0, 0, 259200, 259200, 1, 259200, 259200);
        x.exception(0, 15, true);
        long far = 18 * DAY;
        best(0, 1, 6 * DAY, far, "0 15 0 1 " + far + " " + far);
        next(0, 1, 6 * DAY, 0, far);
        best(0, 1, 6 * DAY - 1, NONE);
        next(0, 1, 6 * DAY - 1, 0, NONE);
        about("Terms (promise 8): the days are counted from t, not from a change");
        lineOf(0, 0, 0, 0, 1, DAY, DAY);
        lineOf(0, 1, 0, 0, 2, 5, 5);
        x.exception(0, 5, true);
        x.exception(1, 10, true);
        earliest(0, 2, DAY - 1, NONE);
        earliest(1, 2, DAY - 1, NONE);
        best(0, 2, DAY, 10 * DAY + 5, "0 5 0 1 " + 5 * DAY + " " + 6 * DAY, "1 10 0 1 " + 10 * DAY + " " + (10 * DAY + 5));
    }

    private void sixLegs() {
        about("Terms (promise 8): ways of 6 legs at most");
        for (int i = 0; i < 7; i++) {
            lineOf(127, i, i, i, i + 1, i + 1, i + 1);
        }
        best(0, 6, 0, 6, "0 0 0 1 0 1", "1 0 0 1 1 2", "2 0 0 1 2 3", "3 0 0 1 3 4", "4 0 0 1 4 5", "5 0 0 1 5 6");
        best(0, 7, 0, NONE);
        best(1, 7, 0, 7, "1 0 0 1 1 2", "2 0 0 1 2 3", "3 0 0 1 3 4", "4 0 0 1 4 5", "5 0 0 1 5 6", "6 0 0 1 6 7");
        about("Terms (promise 8): a later way of fewer legs, where the first one has 7");
        for (int i = 0; i < 7; i++) {
            lineOf(127, i, i, i, i + 1, i + 1, i + 1);
        }
        lineOf(127, 0, 0, 0, 6, 9, 9);
        best(0, 7, 0, DAY + 7, "7 0 0 1 0 9", "6 1 0 1 86406 86407");
    }

    private void callsThatThrow() {
        about("Terms (promises 2 to 12): a call that throws changes nothing");
        noNumber("line", y -> y.line(128));
        noNumber("stop", y -> y.stop(0, 3, 259201, 259201));
        noNumber("exception", y -> y.exception(0, 20001, false));
        noNumber("zone", y -> y.zone(1, 0, 901));
        noNumber("least", y -> y.least(1, 100001));
        noNumber("change", y -> y.change(0, 0, 100001, 0));
        noNumber("earliest", y -> y.earliest(0, 1, -1));
        noNumber("step", y -> y.step(0, 6));
        refused(ArrayIndexOutOfBoundsException.class, "days", y -> y.days(13, 2000));
        noNumber("next", y -> y.next(0, 1, 0, 101));
        noNumber("sign", y -> sign(y, 127));
        about("Terms (promises 3, 4, 7): IndexOutOfBoundsException: there is no such line");
        noIndex("stop", y -> y.stop(2, 0, 90000, 90000));
        noIndex("exception", y -> y.exception(2, 0, false));
        noIndex("change", y -> y.change(2, 0, 1, 0));
        about("Terms (promise 7): IndexOutOfBoundsException: there is no such stop");
        noIndex("a stop of another line", y -> y.change(1, 2, 1, 0));
        noIndex("a stop of none", y -> y.change(0, 12, 1, 0));
        about("Terms (promises 4, 5, 7, 12): UnsupportedOperationException: there is no room");
        lineOf(127, 0, 0, 0);
        for (int i = 0; i < 100; i++) {
            x.exception(0, i, true);
            x.zone(i, 0, 0);
            x.change(0, 0, 0, i);
        }
        throwsOf(ROOM, "exception", y -> y.exception(0, 100, true));
        throwsOf(ROOM, "zone", y -> y.zone(0, 1, 0));
        throwsOf(ROOM, "change", y -> y.change(0, 0, 0, 100));
        x = new LineTimes();
        for (int i = 0; i < 500; i++) {
            x.sign('L');
        }
        throwsOf(ROOM, "sign", y -> sign(y, 'L'));
        about("Terms (promises 3 to 8, 11): of several exceptions the one named first is thrown");
        noIndex("stop", y -> y.stop(2, 100, -1, 259201));
        noIndex("exception", y -> y.exception(2, -1, false));
        noIndex("zone", y -> y.zone(100, -1, 901));
        noIndex("least", y -> y.least(100, -1));
        noIndex("change", y -> y.change(0, 3, -1, -1));
        noIndex("earliest", y -> y.earliest(0, 100, -1));
        noIndex("next", y -> y.next(100, 0, -1, -1));
    }

    public static void main(String[] args) {
        TermsTest test = new TermsTest();
        test.use();
        test.timeAndDays();
        test.places();
        test.zoneRows();
        test.lines();
        test.exceptionDays();
        test.stops();
        test.late();
        test.aRun();
        test.times();
        test.legs();
        test.way();
        test.daysThatCount();
        test.sixLegs();
        test.callsThatThrow();
        test.end();
    }
}
