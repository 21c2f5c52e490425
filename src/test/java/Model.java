import java.util.ArrayList;
import java.util.Comparator;
import java.util.List;
import java.util.TreeMap;

/**
 * The document once more, in its own words and with no care for speed: every leg is written out,
 * and a way is found by asking of each leg whether it can be the k-th one.
 */
final class Model {
    private static final class Stop {
        final int place;
        final long arrives;
        final long leaves;

        Stop(int place, long arrives, long leaves) {
            this.place = place;
            this.arrives = arrives;
            this.leaves = leaves;
        }
    }

    private static final class Line {
        int days;
        final List<Stop> stops = new ArrayList<>();
        final TreeMap<Long, Boolean> exceptions = new TreeMap<>();
    }

    private static final class Leg {
        int line;
        int day;
        int entered;
        int left;
        int from;
        int to;
        long leaves;
        long arrives;
    }

    private static final Comparator<Leg> LAST_FIRST = Comparator.comparingInt((Leg l) -> l.line)
            .thenComparingInt(l -> l.day).thenComparingInt(l -> l.left).thenComparingInt(l -> l.entered);
    private static final Comparator<Leg> LEAVING = Comparator.comparingLong((Leg l) -> l.leaves)
            .thenComparingLong(l -> l.arrives).thenComparingInt(l -> l.line).thenComparingInt(l -> l.day)
            .thenComparingInt(l -> l.entered).thenComparingInt(l -> l.left);

    private final List<Line> lines = new ArrayList<>();
    private final List<TreeMap<Long, Integer>> zones = new ArrayList<>();
    private final long[] changes = new long[100];
    /** Line, stop, by, day. */
    private final List<long[]> late = new ArrayList<>();
    private List<Leg> told = new ArrayList<>();
    private String text = "";

    Model() {
        for (int i = 0; i < 100; i++) {
            zones.add(new TreeMap<>());
        }
    }

    private static void index(boolean good) {
        if (!good) {
            throw new IndexOutOfBoundsException();
        }
    }

    private static void number(boolean good) {
        if (!good) {
            throw new IllegalArgumentException();
        }
    }

    private static void room(boolean good) {
        if (!good) {
            throw new UnsupportedOperationException();
        }
    }

    private static boolean isPlace(int place) {
        return 0 <= place && place < 100;
    }

    private boolean isLine(int line) {
        return 0 <= line && line < lines.size();
    }

    int line(int days) {
        number(0 <= days && days <= 127);
        room(lines.size() < 40);
        Line l = new Line();
        l.days = days;
        lines.add(l);
        return lines.size() - 1;
    }

    int stop(int line, int place, long arrives, long leaves) {
        index(isLine(line) && isPlace(place));
        number(0 <= arrives && arrives <= 259200 && 0 <= leaves && leaves <= 259200);
        List<Stop> stops = lines.get(line).stops;
        room(stops.size() < 12);
        if (leaves < arrives || !stops.isEmpty() && arrives < stops.get(stops.size() - 1).leaves) {
            return 0;
        }
        stops.add(new Stop(place, arrives, leaves));
        return 1;
    }

    private int exceptions() {
        int n = 0;
        for (Line l : lines) {
            n += l.exceptions.size();
        }
        return n;
    }

    int exception(int line, long day, boolean runs) {
        index(isLine(line));
        number(0 <= day && day <= 20000);
        TreeMap<Long, Boolean> map = lines.get(line).exceptions;
        room(map.containsKey(day) || exceptions() < 100);
        map.put(day, runs);
        return exceptions();
    }

    int zone(int place, long from, int minutes) {
        index(isPlace(place));
        number(0 <= from && from <= 2000000000 && -900 <= minutes && minutes <= 900);
        int all = 0;
        for (TreeMap<Long, Integer> z : zones) {
            all += z.size();
        }
        room(zones.get(place).containsKey(from) || all < 100);
        zones.get(place).put(from, minutes);
        return zones.get(place).size();
    }

    int least(int place, long seconds) {
        index(isPlace(place));
        number(0 <= seconds && seconds <= 100000);
        int before = (int) changes[place];
        changes[place] = seconds;
        return before;
    }

    int change(int line, int stop, long by, long day) {
        index(isLine(line) && 0 <= stop && stop < lines.get(line).stops.size());
        number(0 <= by && by <= 100000 && 0 <= day && day <= 20000);
        room(late.size() < 100);
        late.add(new long[] {line, stop, by, day});
        return late.size();
    }

    private long minutes(int place, long day) {
        TreeMap<Long, Integer> z = zones.get(place);
        if (z.isEmpty()) {
            return 0;
        }
        return z.floorKey(86400 * day) != null ? z.floorEntry(86400 * day).getValue() : z.firstEntry().getValue();
    }

    private long shift(int line, int stop, long day) {
        long shift = 86400 * day - 60 * minutes(lines.get(line).stops.get(stop).place, day);
        for (long[] l : late) {
            if (l[0] == line && l[1] <= stop && l[3] == day) {
                shift += l[2];
            }
        }
        return shift;
    }

    private boolean runs(int line, long day) {
        Boolean said = lines.get(line).exceptions.get(day);
        return day >= 0 && (said != null ? said : (lines.get(line).days & 1 << (int) (day % 7)) != 0);
    }

    private List<Leg> legs(long t) {
        List<Leg> legs = new ArrayList<>();
        for (int line = 0; line < lines.size(); line++) {
            for (long day = t / 86400 - 3; day <= t / 86400 + 9; day++) {
                if (runs(line, day)) {
                    addLegs(legs, line, (int) day);
                }
            }
        }
        return legs;
    }

    private void addLegs(List<Leg> legs, int line, int day) {
        List<Stop> stops = lines.get(line).stops;
        for (int i = 0; i < stops.size(); i++) {
            for (int j = i + 1; j < stops.size(); j++) {
                Leg leg = new Leg();
                leg.line = line;
                leg.day = day;
                leg.entered = i;
                leg.left = j;
                leg.from = stops.get(i).place;
                leg.to = stops.get(j).place;
                leg.leaves = stops.get(i).leaves + shift(line, i, day);
                leg.arrives = stops.get(j).arrives + shift(line, j, day);
                if (leg.arrives >= leg.leaves) {
                    legs.add(leg);
                }
            }
        }
    }

    /** By k: the legs that are the k-th and last one of some way (from 1 on). */
    private List<List<Leg>> lastLegs(int from, long t) {
        List<Leg> all = legs(t);
        List<List<Leg>> last = new ArrayList<>();
        last.add(new ArrayList<>());
        for (int k = 1; k <= 6; k++) {
            List<Leg> those = new ArrayList<>();
            for (Leg leg : all) {
                boolean can = k == 1 && leg.from == from && leg.leaves >= t;
                for (Leg before : last.get(k - 1)) {
                    can |= before.to == leg.from && before.arrives + changes[leg.from] <= leg.leaves;
                }
                if (can) {
                    those.add(leg);
                }
            }
            last.add(those);
        }
        return last;
    }

    private static long firstArrival(List<Leg> legs, int to) {
        return legs.stream().filter(l -> l.to == to).mapToLong(l -> l.arrives).min().orElse(Long.MAX_VALUE);
    }

    long earliest(int from, int to, long t) {
        index(isPlace(from) && isPlace(to));
        number(0 <= t && t <= 1700000000);
        told = new ArrayList<>();
        if (from == to) {
            return t;
        }
        List<List<Leg>> last = lastLegs(from, t);
        long best = Long.MAX_VALUE;
        int fewest = 0;
        for (int k = 1; k <= 6; k++) {
            if (firstArrival(last.get(k), to) < best) {
                best = firstArrival(last.get(k), to);
                fewest = k;
            }
        }
        int place = to;
        for (int k = fewest; k > 0; k--) {
            int end = place;
            long first = firstArrival(last.get(k), end);
            Leg leg = last.get(k).stream().filter(l -> l.to == end && l.arrives == first).min(LAST_FIRST).get();
            told.add(0, leg);
            place = leg.from;
        }
        return fewest == 0 ? -1 : best;
    }

    int toldLegs() {
        return told.size();
    }

    int step(int i, int what) {
        number(0 <= what && what <= 5);
        if (i < 0 || i >= told.size()) {
            return -1;
        }
        Leg leg = told.get(i);
        long[] parts = {leg.line, leg.day, leg.entered, leg.left, leg.leaves, leg.arrives};
        return (int) parts[what];
    }

    int days(int month, int year) {
        if (month < 1 || month > 12) {
            throw new ArrayIndexOutOfBoundsException();
        }
        return java.time.YearMonth.of(year, month).lengthOfMonth();
    }

    int next(int from, int to, long t, int i) {
        index(isPlace(from) && isPlace(to));
        number(0 <= t && t <= 1700000000 && 0 <= i && i <= 100);
        List<Leg> those = new ArrayList<>();
        for (Leg leg : legs(t)) {
            if (leg.from == from && leg.to == to && leg.leaves >= t) {
                those.add(leg);
            }
        }
        those.sort(LEAVING);
        return i < those.size() ? (int) those.get(i).leaves : -1;
    }

    void sign(int c) {
        number(32 <= c && c <= 126);
        room(text.length() < 500);
        text += (char) c;
    }

    /** Sign by sign: each one either begins an item, stands in a number, or ends one. */
    int read() {
        String all = text;
        text = "";
        if (all.isEmpty()) {
            return 0;
        }
        List<Line> came = new ArrayList<>();
        String digits = null;
        boolean line = false;
        long[] row = new long[3];
        int field = 0;
        for (int at = 0; at <= all.length(); at++) {
            char c = at < all.length() ? all.charAt(at) : '\n';
            if (digits == null) {
                Line last = came.isEmpty() ? null : came.get(came.size() - 1);
                if (!(c == 'L' && lines.size() + came.size() < 40 || c == 'S' && last != null && last.stops.size() < 12)) {
                    return -1 - at;
                }
                line = c == 'L';
                field = 0;
                digits = "";
                continue;
            }
            boolean digit = '0' <= c && c <= '9' && digits.length() < 6;
            if (digit) {
                digits += c;
            } else if (digits.isEmpty()) {
                return -1 - at;
            }
            if (!digit || digits.length() == 6) {
                row[field] = Long.parseLong(digits);
                if (!good(line, field, row, came)) {
                    return -1 - (digit ? at + 1 - digits.length() : at - digits.length());
                }
            }
            if (digit) {
                continue;
            }
            boolean ended = line || field == 2;
            if (ended ? c != ';' && c != '\n' : c != ' ') {
                return -1 - at;
            }
            digits = ended ? null : "";
            field++;
            if (ended) {
                take(line, row, came);
                if (c == '\n') {
                    break;
                }
            }
        }
        lines.addAll(came);
        return came.size();
    }

    private static boolean good(boolean line, int field, long[] row, List<Line> came) {
        if (line) {
            return row[0] <= 127;
        }
        List<Stop> stops = came.get(came.size() - 1).stops;
        switch (field) {
            case 0:
                return row[0] <= 99;
            case 1:
                return row[1] <= 259200 && (stops.isEmpty() || row[1] >= stops.get(stops.size() - 1).leaves);
            default:
                return row[2] <= 259200 && row[2] >= row[1];
        }
    }

    private static void take(boolean line, long[] row, List<Line> came) {
        if (line) {
            Line l = new Line();
            l.days = (int) row[0];
            came.add(l);
        } else {
            came.get(came.size() - 1).stops.add(new Stop((int) row[0], row[1], row[2]));
        }
    }
}
