import java.util.ArrayList;
import java.util.List;

/**
 * What an object answers to a fixed row of questions, about all that a call can change. Objects that
 * were told the same look the same. It asks by telling more, so it is an object's last use.
 */
final class Look {
    private static final int DAY = 86400;
    private static final int[] PLACES = {0, 1, 2, 99};

    private final LineTimes x;
    private final List<String> seen = new ArrayList<>();

    private Look(LineTimes x) {
        this.x = x;
    }

    static String[] at(LineTimes x) {
        Look look = new Look(x);
        look.atWay();
        look.atTimes();
        look.atText();
        look.atStops();
        look.atCounts();
        return look.seen.toArray(new String[0]);
    }

    private void see(String what, Check.Call call) {
        seen.add(what + ": " + Check.outcome(call));
    }

    private void atWay() {
        for (int i = 0; i < 3; i++) {
            for (int what = 0; what < 6; what++) {
                int leg = i;
                int part = what;
                see("step " + i + " " + what, () -> x.step(leg, part));
            }
        }
    }

    private void atTimes() {
        for (int day = 0; day < 3; day++) {
            long t = (long) day * DAY;
            see("0 to 1 from day " + day, () -> x.earliest(0, 1, t));
            see("its leaving", () -> x.step(0, 4));
            see("0 to 3 from day " + day, () -> x.earliest(0, 3, t));
            see("the second 0 to 2 from day " + day, () -> x.next(0, 2, t, 1));
        }
        see("0 to 99", () -> x.earliest(0, 99, 0));
    }

    private void atText() {
        see("read", x::read);
    }

    /** A line's stops are counted by words that make none of them late. */
    private void atStops() {
        for (int line = 0; line < 4; line++) {
            for (int stop = 0; stop < 4; stop++) {
                int l = line;
                int s = stop;
                see("line " + line + " stop " + stop, () -> x.change(l, s, 0, 12345));
            }
        }
        see("line 0 stop 11", () -> x.change(0, 11, 0, 12345));
        see("line 0 stop 12", () -> x.change(0, 12, 0, 12345));
    }

    private void atCounts() {
        for (int place : PLACES) {
            see("rows of " + place, () -> x.zone(place, 1234567, 0));
            see("change of " + place, () -> x.least(place, 0));
        }
        see("exceptions", () -> x.exception(1, 12345, true));
        see("line 39", () -> x.stop(39, 0, 0, 0));
        see("lines", () -> x.line(0));
    }
}
