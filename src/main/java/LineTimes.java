import java.util.ArrayList;
import java.util.Arrays;
import java.util.List;

/**
 * Transport lines of a post: runs by days of the week and exceptions, stops by each place's own
 * clock, late days, and the earliest way between two places with changes that take their time.
 */
public final class LineTimes {
    public static final int NONE = -1;

    private static final int PLACES = 100;
    private static final int MOST_LINES = 40;
    private static final int MOST_STOPS = 12;
    private static final int MOST_LEGS = 6;
    private static final int MOST_WORDS = 100;
    private static final int MOST_SIGNS = 500;
    private static final int MOST_NEXT = 100;
    private static final int MOST_DIGITS = 6;

    private static final int WEEK = 7;
    private static final int ALL_WEEK = 127;
    private static final int LAST_STOP_TIME = 259200;
    private static final int LAST_WORD_DAY = 20000;
    private static final int LAST_ZONE_FROM = 2000000000;
    private static final int MOST_MINUTES = 900;
    private static final int MOST_SECONDS = 100000;
    private static final int LAST_START = 1700000000;

    private static final int DAY_SECONDS = 86400;
    private static final int DAYS_BEFORE = 3;
    private static final int DAYS_COUNTED = 13;

    // Every time of a run stays below 1,712,000,000 (the last start, nine days, a stop's time, a
    // zone and a hundred late words), so int holds all times, and this one is behind them all.
    private static final int NEVER = 2147483647;

    private static final int PART_LINE = 0;
    private static final int PART_DAY = 1;
    private static final int PART_ENTERED = 2;
    private static final int PART_LEFT = 3;
    private static final int PART_LEAVES = 4;
    private static final int PART_ARRIVES = 5;
    private static final int PARTS = 6;

    private static final int FEBRUARY = 2;
    private static final int[] MONTH_DAYS = {31, 28, 31, 30, 31, 30, 31, 31, 30, 31, 30, 31};

    private final Net net = new Net();
    private final Way way = new Way();
    private final Leavings leavings = new Leavings();
    private final Text text = new Text();
    private int exceptionCount;
    private int zoneCount;
    private int lateCount;

    public LineTimes() {
    }

    public int line(int days) throws IllegalArgumentException, UnsupportedOperationException {
        requireRange(days, 0, ALL_WEEK);
        requireRoom(net.lines.size() < MOST_LINES);
        net.lines.add(new Line(days));
        return net.lines.size() - 1;
    }

    public int stop(int line, int place, long arrives, long leaves)
            throws IndexOutOfBoundsException, IllegalArgumentException, UnsupportedOperationException {
        requireIndex(line, net.lines.size());
        requireIndex(place, PLACES);
        requireRange(arrives, 0, LAST_STOP_TIME);
        requireRange(leaves, 0, LAST_STOP_TIME);
        Line longer = net.lines.get(line);
        requireRoom(longer.hasRoom());
        if (arrives < longer.lastLeaving() || leaves < arrives) {
            return 0;
        }
        longer.addStop(place, (int) arrives, (int) leaves);
        return 1;
    }

    public int exception(int line, long day, boolean runs)
            throws IndexOutOfBoundsException, IllegalArgumentException, UnsupportedOperationException {
        requireIndex(line, net.lines.size());
        requireRange(day, 0, LAST_WORD_DAY);
        Line told = net.lines.get(line);
        DayWord old = told.wordFor((int) day);
        if (old != null) {
            old.runs = runs;
            return exceptionCount;
        }
        requireRoom(exceptionCount < MOST_WORDS);
        told.dayWords = new DayWord((int) day, runs, told.dayWords);
        exceptionCount++;
        return exceptionCount;
    }

    public int zone(int place, long from, int minutes)
            throws IndexOutOfBoundsException, IllegalArgumentException, UnsupportedOperationException {
        requireIndex(place, PLACES);
        requireRange(from, 0, LAST_ZONE_FROM);
        requireRange(minutes, -MOST_MINUTES, MOST_MINUTES);
        Place told = net.places[place];
        ZoneRow old = told.rowFrom((int) from);
        if (old != null) {
            old.minutes = minutes;
            return told.rowCount;
        }
        requireRoom(zoneCount < MOST_WORDS);
        told.addRow((int) from, minutes);
        zoneCount++;
        return told.rowCount;
    }

    public int least(int place, long seconds) throws IndexOutOfBoundsException, IllegalArgumentException {
        requireIndex(place, PLACES);
        requireRange(seconds, 0, MOST_SECONDS);
        Place told = net.places[place];
        int before = told.changeSeconds;
        told.changeSeconds = (int) seconds;
        return before;
    }

    public int change(int line, int stop, long by, long day)
            throws IndexOutOfBoundsException, IllegalArgumentException, UnsupportedOperationException {
        requireIndex(line, net.lines.size());
        Line late = net.lines.get(line);
        requireIndex(stop, late.stopCount);
        requireRange(by, 0, MOST_SECONDS);
        requireRange(day, 0, LAST_WORD_DAY);
        requireRoom(lateCount < MOST_WORDS);
        late.lateWords = new LateWord(stop, (int) by, (int) day, late.lateWords);
        lateCount++;
        return lateCount;
    }

    public long earliest(int from, int to, long t) throws IndexOutOfBoundsException, IllegalArgumentException {
        requireJourney(from, to, t);
        way.legCount = 0;
        if (from == to) {
            return t;
        }
        int legs = net.findBest(from, to, (int) t);
        if (legs == NONE) {
            return NONE;
        }
        net.tell(way, to, legs);
        return net.arrivals[legs][to];
    }

    public int step(int i, int what) throws IllegalArgumentException {
        requireRange(what, 0, PARTS - 1);
        if (i < 0 || i >= way.legCount) {
            return NONE;
        }
        return way.legs[i][what];
    }

    public int days(int month, int year) throws ArrayIndexOutOfBoundsException {
        if (month < 1 || month > MONTH_DAYS.length) {
            throw new ArrayIndexOutOfBoundsException("there is no such month");
        }
        if (month == FEBRUARY && isLeap(year)) {
            return MONTH_DAYS[month - 1] + 1;
        }
        return MONTH_DAYS[month - 1];
    }

    public int next(int from, int to, long t, int i) throws IndexOutOfBoundsException, IllegalArgumentException {
        requireJourney(from, to, t);
        requireRange(i, 0, MOST_NEXT);
        leavings.clear(i + 1);
        net.gather(leavings, from, to, (int) t);
        return i < leavings.count ? leavings.times[i] : NONE;
    }

    public void sign(int c) throws IllegalArgumentException, UnsupportedOperationException {
        requireRange(c, ' ', '~');
        requireRoom(text.length < MOST_SIGNS);
        text.add((char) c);
    }

    public int read() {
        int answer = text.parse(MOST_LINES - net.lines.size());
        if (answer > 0) {
            for (int i = 0; i < text.came.size(); i++) {
                net.lines.add(text.came.get(i));
            }
        }
        text.clear();
        return answer;
    }

    private static boolean isLeap(int year) {
        return year % 4 == 0 && (year % 100 != 0 || year % 400 == 0);
    }

    private static void requireJourney(int from, int to, long t) {
        requireIndex(from, PLACES);
        requireIndex(to, PLACES);
        requireRange(t, 0, LAST_START);
    }

    private static void requireIndex(int index, int count) {
        if (index < 0 || index >= count) {
            throw new IndexOutOfBoundsException("there is no such line, stop or place");
        }
    }

    private static void requireRange(long number, long first, long last) {
        if (number < first || number > last) {
            throw new IllegalArgumentException("a number is not as said");
        }
    }

    private static void requireRoom(boolean room) {
        if (!room) {
            throw new UnsupportedOperationException("there is no room");
        }
    }

    /** From a second on, a place's clock is so many minutes before the time told. */
    private static final class ZoneRow {
        final int from;
        int minutes;
        ZoneRow earlier;

        ZoneRow(int from, int minutes, ZoneRow earlier) {
            this.from = from;
            this.minutes = minutes;
            this.earlier = earlier;
        }
    }

    /** A place: its zone rows, the latest one in front, and how long a change takes there. */
    private static final class Place {
        ZoneRow latest;
        int rowCount;
        int changeSeconds;

        ZoneRow rowFrom(int from) {
            for (ZoneRow row = latest; row != null; row = row.earlier) {
                if (row.from == from) {
                    return row;
                }
            }
            return null;
        }

        void addRow(int from, int minutes) {
            ZoneRow later = null;
            for (ZoneRow row = latest; row != null && row.from > from; row = row.earlier) {
                later = row;
            }
            if (later == null) {
                latest = new ZoneRow(from, minutes, latest);
            } else {
                later.earlier = new ZoneRow(from, minutes, later.earlier);
            }
            rowCount++;
        }

        int minutesAt(int second) {
            int minutes = 0;
            for (ZoneRow row = latest; row != null; row = row.earlier) {
                // Kept even when the row begins later: the first row holds before all of them.
                minutes = row.minutes;
                if (row.from <= second) {
                    return minutes;
                }
            }
            return minutes;
        }
    }

    /** What was said of a line for one day: that it runs, or that it does not. */
    private static final class DayWord {
        final int day;
        boolean runs;
        final DayWord before;

        DayWord(int day, boolean runs, DayWord before) {
            this.day = day;
            this.runs = runs;
            this.before = before;
        }
    }

    /** On a day a line is so many seconds later from a stop on. */
    private static final class LateWord {
        final int stop;
        final int by;
        final int day;
        final LateWord before;

        LateWord(int stop, int by, int day, LateWord before) {
            this.stop = stop;
            this.by = by;
            this.day = day;
            this.before = before;
        }
    }

    /** A line, and its runs on the days that count for the call that is being answered. */
    private static final class Line {
        final int weekDays;
        final int[] stopPlaces = new int[MOST_STOPS];
        final int[] stopArrives = new int[MOST_STOPS];
        final int[] stopLeaves = new int[MOST_STOPS];
        int stopCount;
        DayWord dayWords;
        LateWord lateWords;

        final boolean[] runs = new boolean[DAYS_COUNTED];
        final int[][] arrivals = new int[DAYS_COUNTED][MOST_STOPS];
        final int[][] departures = new int[DAYS_COUNTED][MOST_STOPS];
        private final int[] lateBy = new int[MOST_STOPS];

        Line(int weekDays) {
            this.weekDays = weekDays;
        }

        boolean hasRoom() {
            return stopCount < MOST_STOPS;
        }

        int lastLeaving() {
            return stopCount == 0 ? 0 : stopLeaves[stopCount - 1];
        }

        void addStop(int place, int arrives, int leaves) {
            if (!hasRoom()) {
                return;
            }
            stopPlaces[stopCount] = place;
            stopArrives[stopCount] = arrives;
            stopLeaves[stopCount] = leaves;
            stopCount++;
        }

        DayWord wordFor(int day) {
            for (DayWord word = dayWords; word != null; word = word.before) {
                if (word.day == day) {
                    return word;
                }
            }
            return null;
        }

        void workOutRuns(int firstDay, Place[] places) {
            for (int row = 0; row < DAYS_COUNTED; row++) {
                runs[row] = runsOn(firstDay + row);
                if (runs[row]) {
                    workOutTimes(row, firstDay + row, places);
                }
            }
        }

        private boolean runsOn(int day) {
            if (day < 0) {
                return false;
            }
            DayWord word = wordFor(day);
            if (word != null) {
                return word.runs;
            }
            return (weekDays >> (day % WEEK) & 1) == 1;
        }

        private void workOutTimes(int row, int day, Place[] places) {
            gatherLate(day);
            int begin = DAY_SECONDS * day;
            int late = 0;
            for (int stop = 0; stop < stopCount; stop++) {
                late += lateBy[stop];
                int shift = begin - 60 * places[stopPlaces[stop]].minutesAt(begin) + late;
                arrivals[row][stop] = stopArrives[stop] + shift;
                departures[row][stop] = stopLeaves[stop] + shift;
            }
        }

        private void gatherLate(int day) {
            Arrays.fill(lateBy, 0);
            for (LateWord word = lateWords; word != null; word = word.before) {
                if (word.day == day) {
                    lateBy[word.stop] += word.by;
                }
            }
        }
    }

    /** The legs of the way told latest, each by its parts in the order of step's what. */
    private static final class Way {
        final int[][] legs = new int[MOST_LEGS][PARTS];
        int legCount;
    }

    /** The first few times of leaving, in order. */
    private static final class Leavings {
        final int[] times = new int[MOST_NEXT + 1];
        int count;
        private int wanted;

        void clear(int wanted) {
            this.wanted = Math.min(wanted, times.length);
            count = 0;
        }

        void note(int time) {
            if (count < wanted) {
                count++;
            } else if (count == 0 || time >= times[count - 1]) {
                return;
            }
            int at = count - 1;
            for (; at > 0 && times[at - 1] > time; at--) {
                times[at] = times[at - 1];
            }
            times[at] = time;
        }
    }

    /** All lines and places, and the search for ways and legs among them. */
    private static final class Net {
        final List<Line> lines = new ArrayList<>();
        final Place[] places = new Place[PLACES];
        /** By number of legs and place: the first arrival, where no way of fewer legs is as early. */
        final int[][] arrivals = new int[MOST_LEGS + 1][PLACES];
        /** By place: the first arrival found so far, with any number of legs. */
        private final int[] soonest = new int[PLACES];
        private int firstDay;

        Net() {
            for (int i = 0; i < PLACES; i++) {
                places[i] = new Place();
            }
        }

        /** How many legs the best way has, or NONE; arrivals is filled in up to that number. */
        int findBest(int from, int to, int t) {
            workOutRuns(t);
            Arrays.fill(soonest, NEVER);
            Arrays.fill(arrivals[0], NEVER);
            soonest[from] = t;
            arrivals[0][from] = t;
            int found = NONE;
            boolean spreads = true;
            for (int legs = 1; legs <= MOST_LEGS && spreads; legs++) {
                spreads = spread(legs, to);
                if (arrivals[legs][to] != NEVER) {
                    found = legs;
                }
            }
            return found;
        }

        private void workOutRuns(int t) {
            firstDay = t / DAY_SECONDS - DAYS_BEFORE;
            for (int i = 0; i < lines.size(); i++) {
                lines.get(i).workOutRuns(firstDay, places);
            }
        }

        private boolean spread(int legs, int to) {
            Arrays.fill(arrivals[legs], NEVER);
            boolean spreads = false;
            for (int i = 0; i < lines.size(); i++) {
                Line line = lines.get(i);
                for (int row = 0; row < DAYS_COUNTED; row++) {
                    if (line.runs[row] && ride(line, row, legs, to)) {
                        spreads = true;
                    }
                }
            }
            return spreads;
        }

        /** Takes a run as the last of so many legs: whether a place is reached earlier by it. */
        private boolean ride(Line line, int row, int legs, int to) {
            boolean earlier = false;
            int firstEntry = NEVER;
            for (int stop = 0; stop < line.stopCount; stop++) {
                int place = line.stopPlaces[stop];
                int arrives = line.arrivals[row][stop];
                // An arrival as late as one known, here or at the end, only makes more legs of it.
                if (firstEntry <= arrives && arrives < soonest[place] && arrives < soonest[to]) {
                    soonest[place] = arrives;
                    arrivals[legs][place] = arrives;
                    earlier = true;
                }
                int leaves = line.departures[row][stop];
                if (leaves < firstEntry && canEnter(place, leaves, legs - 1)) {
                    firstEntry = leaves;
                }
            }
            return earlier;
        }

        private boolean canEnter(int place, int leaves, int legsBefore) {
            int arrived = arrivals[legsBefore][place];
            if (arrived == NEVER) {
                return false;
            }
            return leaves >= (legsBefore == 0 ? arrived : arrived + places[place].changeSeconds);
        }

        /** Tells the way of so many legs that findBest has found, from its last leg to its first. */
        void tell(Way way, int to, int legs) {
            way.legCount = legs;
            int place = to;
            for (int leg = legs; leg > 0; leg--) {
                place = tellLastLeg(way.legs[leg - 1], place, leg);
            }
        }

        /** Tells the least leg that can be the last one of so many to a place: where it is entered. */
        private int tellLastLeg(int[] parts, int place, int legs) {
            for (int i = 0; i < lines.size(); i++) {
                Line line = lines.get(i);
                for (int row = 0; row < DAYS_COUNTED; row++) {
                    if (line.runs[row] && findLeg(parts, line, row, place, legs)) {
                        parts[PART_LINE] = i;
                        parts[PART_DAY] = firstDay + row;
                        return line.stopPlaces[parts[PART_ENTERED]];
                    }
                }
            }
            return place;
        }

        private boolean findLeg(int[] parts, Line line, int row, int place, int legs) {
            for (int left = 1; left < line.stopCount; left++) {
                int arrives = line.arrivals[row][left];
                if (line.stopPlaces[left] != place || arrives != arrivals[legs][place]) {
                    continue;
                }
                int entered = findEntry(line, row, left, legs - 1);
                if (entered != NONE) {
                    parts[PART_ENTERED] = entered;
                    parts[PART_LEFT] = left;
                    parts[PART_LEAVES] = line.departures[row][entered];
                    parts[PART_ARRIVES] = arrives;
                    return true;
                }
            }
            return false;
        }

        private int findEntry(Line line, int row, int left, int legsBefore) {
            for (int stop = 0; stop < left; stop++) {
                int leaves = line.departures[row][stop];
                if (leaves <= line.arrivals[row][left] && canEnter(line.stopPlaces[stop], leaves, legsBefore)) {
                    return stop;
                }
            }
            return NONE;
        }

        /** Notes when the legs from a place to another one leave, of those that leave at t or later. */
        void gather(Leavings leavings, int from, int to, int t) {
            workOutRuns(t);
            for (int i = 0; i < lines.size(); i++) {
                Line line = lines.get(i);
                for (int row = 0; row < DAYS_COUNTED; row++) {
                    if (line.runs[row]) {
                        gatherRun(leavings, line, row, from, to, t);
                    }
                }
            }
        }

        private void gatherRun(Leavings leavings, Line line, int row, int from, int to, int t) {
            for (int entered = 0; entered < line.stopCount; entered++) {
                int leaves = line.departures[row][entered];
                if (line.stopPlaces[entered] != from || leaves < t) {
                    continue;
                }
                for (int left = entered + 1; left < line.stopCount; left++) {
                    if (line.stopPlaces[left] == to && line.arrivals[row][left] >= leaves) {
                        // Only the leaving is asked for, so legs that leave together need no order.
                        leavings.note(leaves);
                    }
                }
            }
        }
    }

    /** The text that is signed, and the lines that come from it when it is read. */
    private static final class Text {
        final List<Line> came = new ArrayList<>();
        int length;
        private final char[] signs = new char[MOST_SIGNS];
        private int at;
        /** The place of the first thing that is wrong, or NONE. */
        private int fault;
        private int room;

        void add(char c) {
            if (length < MOST_SIGNS) {
                signs[length] = c;
                length++;
            }
        }

        void clear() {
            length = 0;
            came.clear();
        }

        /** Parses the text into lines that came: how many, or -1 less the place of the fault. */
        int parse(int room) {
            this.room = room;
            at = 0;
            fault = NONE;
            came.clear();
            if (length == 0) {
                return 0;
            }
            parseItem();
            // Each item takes two signs at least, so the count never cuts a text short.
            for (int items = 1; items < length && fault == NONE && at < length; items++) {
                parseSign(';');
                parseItem();
            }
            return fault == NONE ? came.size() : -1 - fault;
        }

        private void parseItem() {
            if (fault != NONE) {
                return;
            }
            if (stands('L') && came.size() < room) {
                at++;
                parseLine();
            } else if (stands('S') && lastHasRoom()) {
                at++;
                parseStop(came.get(came.size() - 1));
            } else {
                fault = at;
            }
        }

        private boolean lastHasRoom() {
            return !came.isEmpty() && came.get(came.size() - 1).hasRoom();
        }

        private void parseLine() {
            int weekDays = parseNumber(0, ALL_WEEK);
            if (fault == NONE) {
                came.add(new Line(weekDays));
            }
        }

        private void parseStop(Line line) {
            int place = parseNumber(0, PLACES - 1);
            parseSign(' ');
            int arrives = parseNumber(line.lastLeaving(), LAST_STOP_TIME);
            parseSign(' ');
            int leaves = parseNumber(arrives, LAST_STOP_TIME);
            if (fault == NONE) {
                line.addStop(place, arrives, leaves);
            }
        }

        private boolean stands(char c) {
            return at < length && signs[at] == c;
        }

        private void parseSign(char c) {
            if (fault != NONE) {
                return;
            }
            if (stands(c)) {
                at++;
            } else {
                fault = at;
            }
        }

        /** The number that stands here; a fault at its first digit when it is not first .. last. */
        private int parseNumber(int first, int last) {
            if (fault != NONE) {
                return 0;
            }
            int begin = at;
            int number = 0;
            while (at < length && at < begin + MOST_DIGITS && signs[at] >= '0' && signs[at] <= '9') {
                number = 10 * number + (signs[at] - '0');
                at++;
            }
            if (at == begin || number < first || number > last) {
                fault = begin;
            }
            return number;
        }
    }
}
