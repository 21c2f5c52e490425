import java.util.Random;

/** Runs of calls chosen by a fixed seed, each answer held against the Model's. */
final class RandomRunsTest {
    private static final int RUNS = 1800;
    /** What an object answers behind these is free. */
    private static final int MOST_CALLS = 512;

    private final Check check;
    private final Random random;
    private final LineTimes x = new LineTimes();
    private final Model model = new Model();
    private final StringBuilder story = new StringBuilder();
    private final int places;
    private final int lines;
    private final int unit;
    private final int span;
    private final long firstDay;
    private int calls;

    private RandomRunsTest(Check check, long seed) {
        this.check = check;
        random = new Random(seed);
        places = 2 + random.nextInt(7);
        lines = 1 + random.nextInt(8);
        unit = random.nextInt(4) == 0 ? 1 : 600;
        span = unit == 1 ? 30 : pick(10, 50, 200, 432);
        firstDay = random.nextInt(3) == 0 ? 19670 : random.nextInt(12);
        story.append("seed ").append(seed).append(": ");
    }

    private int pick(int... those) {
        return those[random.nextInt(those.length)];
    }

    private boolean rarely() {
        return random.nextInt(40) == 0;
    }

    private int place() {
        return rarely() ? pick(-1, 100, 99, Integer.MAX_VALUE, Integer.MIN_VALUE) : random.nextInt(places);
    }

    private int line() {
        return rarely() ? pick(-1, 40, 39, Integer.MAX_VALUE, Integer.MIN_VALUE) : random.nextInt(lines);
    }

    private long day() {
        return rarely() ? pick(-1, 0, 20000, 20001) : firstDay + random.nextInt(6);
    }

    private long start() {
        if (rarely()) {
            return pick(-1, 0, 1700000000, 1700000001);
        }
        return firstDay * 86400 + (long) random.nextInt(2 * span) * unit;
    }

    private void ask(String call, Check.Call asked, Check.Call due) {
        calls++;
        if (calls > MOST_CALLS) {
            return;
        }
        story.append(call).append(' ');
        check.equal(story.toString(), Check.outcome(asked), Check.outcome(due));
        // Only what changes something belongs to the story of later calls.
        if (call.startsWith("earliest") || call.startsWith("step") || call.startsWith("next")) {
            story.setLength(story.length() - call.length() - 1);
        }
    }

    private void askLine() {
        int days = rarely() ? pick(-1, 128) : random.nextInt(3) == 0 ? random.nextInt(128) : pick(127, 127, 3, 0);
        ask("line(" + days + ")", () -> x.line(days), () -> model.line(days));
    }

    private void askStop(int line, long arrives, long leaves) {
        int place = place();
        ask("stop(" + line + "," + place + "," + arrives + "," + leaves + ")",
                () -> x.stop(line, place, arrives, leaves), () -> model.stop(line, place, arrives, leaves));
    }

    private void askStops() {
        int line = line();
        long time = (long) random.nextInt(span) * unit;
        int count = 1 + random.nextInt(random.nextInt(6) == 0 ? 13 : 4);
        for (int i = 0; i < count; i++) {
            long leaves = time + (long) random.nextInt(3) * unit;
            askStop(line, time, rarely() ? pick(-1, 259201, 259200, 0) : leaves);
            time = rarely() ? pick(-1, 259201, 0) : leaves + (long) random.nextInt(Math.max(2, span / 8)) * unit;
        }
    }

    private void askException() {
        int line = line();
        long day = day();
        boolean runs = random.nextBoolean();
        ask("exception(" + line + "," + day + "," + runs + ")",
                () -> x.exception(line, day, runs), () -> model.exception(line, day, runs));
    }

    private void askZone() {
        int place = place();
        long from = rarely() ? pick(-1, 0, 2000000000, 2000000001)
                : Math.max(0, 86400 * day() + pick(-1, 0, 1, -86400));
        int minutes = rarely() ? pick(-901, -900, 900, 901) : 10 * (random.nextInt(7) - 3);
        ask("zone(" + place + "," + from + "," + minutes + ")",
                () -> x.zone(place, from, minutes), () -> model.zone(place, from, minutes));
    }

    private void askLeast() {
        int place = place();
        long seconds = rarely() ? pick(-1, 100000, 100001) : (long) random.nextInt(4) * unit;
        ask("least(" + place + "," + seconds + ")", () -> x.least(place, seconds), () -> model.least(place, seconds));
    }

    private void askChange() {
        int line = line();
        int stop = rarely() ? pick(-1, 12, Integer.MAX_VALUE) : random.nextInt(4);
        long by = rarely() ? pick(-1, 100000, 100001) : (long) random.nextInt(5) * unit;
        long day = day();
        ask("change(" + line + "," + stop + "," + by + "," + day + ")",
                () -> x.change(line, stop, by, day), () -> model.change(line, stop, by, day));
    }

    private void askEarliest() {
        int from = place();
        int to = place();
        long t = start();
        String call = "earliest(" + from + "," + to + "," + t + ")";
        ask(call, () -> x.earliest(from, to, t), () -> model.earliest(from, to, t));
        askSteps(call);
    }

    private void askSteps(String call) {
        for (int i = 0; i <= model.toldLegs(); i++) {
            for (int what = 0; what < 6; what++) {
                int leg = i;
                int part = what;
                String step = "step(" + leg + "," + part + ") behind " + call;
                ask(step, () -> x.step(leg, part), () -> model.step(leg, part));
            }
        }
    }

    private void askNext() {
        int from = place();
        int to = place();
        long t = start();
        int i = rarely() ? pick(-1, 100, 101) : random.nextInt(random.nextInt(3) == 0 ? 101 : 10);
        ask("next(" + from + "," + to + "," + t + "," + i + ")",
                () -> x.next(from, to, t, i), () -> model.next(from, to, t, i));
    }

    private void askRead() {
        String text = text();
        for (int i = 0; i < text.length(); i++) {
            int c = text.charAt(i);
            ask("sign(" + c + ")", () -> signed(() -> x.sign(c)), () -> signed(() -> model.sign(c)));
        }
        ask("read()", x::read, model::read);
    }

    private static long signed(Runnable sign) {
        sign.run();
        return 0;
    }

    private String text() {
        StringBuilder text = new StringBuilder();
        int count = random.nextInt(4) == 0 ? 14 : 1 + random.nextInt(5);
        long time = random.nextInt(500);
        for (int i = 0; i < count; i++) {
            text.append(text.length() == 0 ? "" : ";");
            if (i == 0 && !rarely() || random.nextInt(count) == 0) {
                text.append('L').append(rarely() ? 128 : 127);
                time = random.nextInt(500);
            } else {
                long leaves = time + random.nextInt(100);
                text.append('S').append(rarely() ? 100 : random.nextInt(places)).append(' ').append(time).append(' ');
                text.append(random.nextInt(8) == 0 ? String.format("%06d", leaves) : Long.toString(leaves));
                time = rarely() ? time : leaves + random.nextInt(200);
            }
        }
        if (random.nextInt(3) != 0) {
            spoil(text);
        }
        return text.toString();
    }

    private void spoil(StringBuilder text) {
        int at = random.nextInt(text.length());
        char c = "LS; 0123456789x-".charAt(random.nextInt(16));
        switch (random.nextInt(4)) {
            case 0:
                text.setLength(at);
                break;
            case 1:
                text.insert(at, c);
                break;
            case 2:
                text.deleteCharAt(at);
                break;
            default:
                text.setCharAt(at, c);
        }
    }

    private void run() {
        for (int i = 0; i < lines; i++) {
            askLine();
            askStops();
        }
        for (int i = 0; i < 60 && calls < MOST_CALLS; i++) {
            switch (random.nextInt(12)) {
                case 0:
                    askStops();
                    break;
                case 1:
                    askException();
                    break;
                case 2:
                    askZone();
                    break;
                case 3:
                    askLeast();
                    break;
                case 4:
                    askChange();
                    break;
                case 5:
                    askRead();
                    break;
                case 6:
                case 7:
                    askNext();
                    break;
                default:
                    askEarliest();
            }
        }
    }

    public static void main(String[] args) {
        Check check = new Check();
        for (int i = 0; i < RUNS; i++) {
            new RandomRunsTest(check, i).run();
        }
        check.end();
    }
}
