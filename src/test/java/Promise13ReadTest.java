/** Promise 13: read. */
final class Promise13ReadTest extends Bench {
    private void howMany() {
        about("Promise 13: how many lines came: the document's text");
        read("L127;S5 100 200;S7 4000 4000;L1", 2);
        best(5, 7, 0, 4000, "0 0 0 1 200 4000");
        same("the second has no stop", x.stop(1, 0, 0, 0), 1);
        same("the next line", x.line(0), 2);
        about("Promise 13: 0 for an empty text");
        read("", 0);
        same("the first line", x.line(0), 0);
        read("", 0);
        about("Promise 13: the text is empty then");
        read("L1", 1);
        same("again", x.read(), 0);
        read("Lx", -2);
        same("again, behind a bad one", x.read(), 0);
        read("L1", 1);
        same("two lines came", x.line(0), 2);
        about("Promise 13: lines come behind those that there are");
        lineOf(127, 0, 5, 5);
        read("L127;S0 10 10;S1 20 20", 1);
        best(0, 1, 0, 20, "1 0 0 1 10 20");
        about("Promise 13: by bits of days, as line");
        read("L1;S0 5 5;S1 6 6;L64;S0 5 5;S2 6 6;L0;S0 5 5;S3 6 6", 3);
        earliest(0, 1, 6, 7 * DAY + 6);
        earliest(0, 2, 0, 6 * DAY + 6);
        earliest(0, 3, 0, NONE);
        x.exception(2, 3, true);
        earliest(0, 3, 0, 3 * DAY + 6);
        about("Promise 13: lines that came take all that lines told take");
        read("L127;S0 5 5;S1 6 6", 1);
        same("a stop", x.stop(0, 2, 7, 7), 1);
        same("a word", x.change(0, 2, 3, 0), 1);
        same("an exception", x.exception(0, 1, false), 1);
        earliest(0, 2, 0, 10);
        earliest(0, 2, 6, 2 * DAY + 7);
    }

    private void characters() {
        about("Promise 13: the first character that cannot stand where it does: the first of all");
        for (String text : new String[] {" ", " L1", ";", ";L1", "l1", "s", "1", "x", "~", "  "}) {
            read(text, -1);
        }
        about("Promise 13: the first character that cannot stand where it does: behind L");
        for (String text : new String[] {"L ", "L 1", "L;", "LL", "LS", "L-1", "L+1", "Lx", "L;L1"}) {
            read(text, -2);
        }
        about("Promise 13: the first character that cannot stand where it does: behind the days");
        for (String text : new String[] {"L1 ", "L1 ;", "L1L1", "L1S", "L1x", "L1-", "L1.", "L1 S5 1 1"}) {
            read(text, -3);
        }
        about("Promise 13: the first character that cannot stand where it does: behind ;");
        for (String text : new String[] {"L1;;", "L1; ", "L1; S5 1 1", "L1;1", "L1;x", "L1;l1", "L1;s5 1 1", "L1;-1"}) {
            read(text, -4);
        }
        about("Promise 13: the first character that cannot stand where it does: behind S");
        for (String text : new String[] {"L1;S ", "L1;S 5 1 1", "L1;S;", "L1;SS", "L1;SL", "L1;S-5 1 1", "L1;Sx"}) {
            read(text, -5);
        }
        about("Promise 13: the first character that cannot stand where it does: behind the place");
        for (String text : new String[] {"L1;S5;", "L1;S5x", "L1;S5,1,1", "L1;S5S", "L1;S5L"}) {
            read(text, -6);
        }
        about("Promise 13: the first character that cannot stand where it does: behind the first blank");
        for (String text : new String[] {"L1;S5  1 1", "L1;S5  ", "L1;S5 ;", "L1;S5 x", "L1;S5 -1 1"}) {
            read(text, -7);
        }
        about("Promise 13: the first character that cannot stand where it does: behind the arriving");
        for (String text : new String[] {"L1;S5 1;", "L1;S5 1x", "L1;S5 1-", "L1;S5 1S", "L1;S5 1;L1"}) {
            read(text, -8);
        }
        about("Promise 13: the first character that cannot stand where it does: behind the second blank");
        for (String text : new String[] {"L1;S5 1  1", "L1;S5 1  ", "L1;S5 1 ;", "L1;S5 1 x", "L1;S5 1 -1"}) {
            read(text, -9);
        }
        about("Promise 13: the first character that cannot stand where it does: behind the leaving");
        for (String text : new String[] {"L1;S5 1 1 ", "L1;S5 1 1 1", "L1;S5 1 1L1", "L1;S5 1 1S", "L1;S5 1 1x"}) {
            read(text, -10);
        }
        about("Promise 13: each character that may stand nowhere, at each place of a text");
        String text = "L1;S5 1 1";
        for (int c = ' '; c <= '~'; c++) {
            if ("LS; 0123456789".indexOf(c) >= 0) {
                continue;
            }
            x = new LineTimes();
            for (int at = 0; at <= text.length(); at++) {
                read(text.substring(0, at) + (char) c + text.substring(at), -1 - at);
            }
        }
        about("Promise 13: the first one of several");
        read("L1;;x", -4);
        read("L1x;;", -3);
        read("x;;", -1);
    }

    private void digits() {
        about("Promise 13: numbers are of 1 to 6 digits: six");
        read("L000127;S000099 000000 259200;S000000 259200 259200", 1);
        best(99, 0, 0, 259200, "0 0 0 1 259200 259200");
        about("Promise 13: numbers are of 1 to 6 digits: one");
        read("L3;S9 0 0;S0 1 1", 1);
        best(9, 0, 0, 1, "0 0 0 1 0 1");
        about("Promise 13: numbers are of 1 to 6 digits: a seventh cannot stand there");
        read("L0001270", -8);
        read("L0000000", -8);
        read("L1;S0000050 1 1", -11);
        read("L1;S5 0000010 10", -13);
        read("L1;S5 1 0000010", -15);
        about("Promise 13: numbers are looked at when they have six digits, before a seventh");
        read("L0001280", -2);
        read("L9999999", -2);
        read("L1;S0001000 1 1", -5);
        read("L1;S5 2592010 1", -7);
        read("L1;S5 9 0000080", -9);
        about("Promise 13: numbers are looked at when they end, before the character behind them");
        read("L128x", -2);
        read("L128 ", -2);
        read("L128;;", -2);
        read("L1;S100;", -5);
        read("L1;S100x", -5);
        read("L1;S5 9 8x", -9);
        about("Promise 13: numbers end with the text, and are looked at then");
        read("L128", -2);
        read("L1;S100", -5);
        read("L1;S5 300000", -7);
        read("L1;S5 9 8", -9);
    }

    private void numbers() {
        about("Promise 13: the first of a number that is not as line wants it: days 0 .. 127");
        read("L0", 1);
        read("L127", 1);
        read("L128", -2);
        read("L999999", -2);
        read("L1;L128", -5);
        read("L128;L1", -2);
        about("Promise 13: the first of a number that is not as stop wants it: place 0 .. 99");
        read("L1;S0 1 1", 1);
        read("L1;S99 1 1", 1);
        read("L1;S100 1 1", -5);
        read("L1;S999999 1 1", -5);
        about("Promise 13: the first of a number that is not as stop wants it: times 0 .. 259200");
        read("L1;S5 0 0", 1);
        read("L1;S5 259200 259200", 1);
        read("L1;S5 0 259200", 1);
        read("L1;S5 259201 259201", -7);
        read("L1;S5 999999 1", -7);
        read("L1;S5 1 259201", -9);
        read("L1;S5 1 999999", -9);
        about("Promise 13: the place of the leaving, if it is before the arriving");
        read("L1;S5 100 99", -11);
        read("L1;S5 100 100", 1);
        read("L1;S5 100 0", -11);
        read("L1;S5 1 3;S6 3 2", -16);
        about("Promise 13: the place of the arriving, if it is before the leaving in front");
        read("L1;S5 1 3;S6 2 4", -14);
        read("L1;S5 1 3;S6 3 4", 1);
        read("L1;S5 1 3;S6 0 4", -14);
        about("Promise 13: the arriving is looked at before the leaving");
        read("L1;S5 1 3;S6 2 1", -14);
        read("L1;S5 1 3;S6 2 x", -14);
        read("L1;S5 1 3;S6 2x", -14);
        about("Promise 13: the leaving in front is of the same line");
        read("L1;S5 1 300;L1;S6 2 4", 2);
        lineOf(127, 0, 500, 500);
        read("L1;S5 1 1", 1);
    }

    private void noRoom() {
        about("Promise 13: the place of an S without a line");
        read("S5 1 1", -1);
        read("S", -1);
        read("Sx", -1);
        read("S5 1 1;L1", -1);
        about("Promise 13: an S without a line, though the object has lines");
        lineOf(127, 0, 1, 1);
        read("S1 2 2", -1);
        earliest(0, 1, 0, NONE);
        about("Promise 13: the place of an S for which there is no room");
        String twelve = ";S0 1 1".repeat(12);
        read("L1" + twelve, 1);
        read("L1" + twelve + ";S0 1 1", -88);
        read("L1" + twelve + ";S", -88);
        read("L1" + twelve + ";Sx", -88);
        about("Promise 13: the next line has room for stops again");
        read("L1" + twelve + ";L1" + twelve, 2);
        throwsOf(ROOM, "a stop more of line 0", y -> y.stop(0, 0, 1, 1));
        throwsOf(ROOM, "a stop more of line 1", y -> y.stop(1, 0, 1, 1));
        about("Promise 13: the place of an L for which there is no room, behind lines told");
        for (int i = 0; i < 38; i++) {
            x.line(0);
        }
        read("L1;L1;L1", -7);
        read("L1;L1;L", -7);
        read("L1;L1;Lx", -7);
        read("L1;L1;L128", -7);
        read("L1;S5 1 1;L1", 2);
        read("L1", -1);
        read("L", -1);
        read("", 0);
        about("Promise 13: the place of an L for which there is no room, in a text alone");
        read("L1" + ";L1".repeat(39), 40);
        throwsOf(ROOM, "as for line", y -> y.line(0));
        about("Promise 13: the place of an L for which there is no room, the forty-first of a text");
        read("L1" + ";L1".repeat(40), -121);
        same("none came", x.line(0), 0);
    }

    private void endsTooEarly() {
        about("Promise 13: the length, if the text ends too early");
        read("L", -2);
        read("L1;", -4);
        read("L1;L", -5);
        read("L1;S", -5);
        read("L1;S5", -6);
        read("L1;S5 ", -7);
        read("L1;S5 1", -8);
        read("L1;S5 1 ", -9);
        read("L1;S5 1 1;", -11);
        read("L1;S000005", -11);
        read("L1;S5 000001", -13);
        about("Promise 13: the length, if the text of 500 ends too early");
        String stops = ";S2 000000 000000".repeat(12);
        String text = "L0" + stops + ";L0" + stops + ";L0".repeat(27) + ";L00;L";
        same("its length", text.length(), 500);
        read(text, -501);
        same("none came", x.line(0), 0);
    }

    private void readInVain(String text, int due) {
        idle("read() of '" + text + "'", due, y -> {
            sign(y, text);
            return y.read();
        });
    }

    private void changesNothingElse() {
        about("Promise 13: or, changing nothing else: of a bad text no line and no stop comes");
        lineOf(127, 0, 10, 10);
        read("L127;S0 10 10;S1 20 20;L128", -25);
        read("L127;S0 10 10;S1 20 20;", -24);
        read("L127;S0 10 10;S1 20 20;S1 19 20", -27);
        earliest(0, 1, 0, NONE);
        same("the next line", x.line(0), 1);
        same("its first stop", x.stop(1, 0, 0, 0), 1);
        about("Promise 13: or, changing nothing else: a good text behind a bad one is as if it were the first");
        read("L127;S0 10 10;S1 20 2", -21);
        read("L127;S0 10 10;S1 20 20", 1);
        best(0, 1, 0, 20, "0 0 0 1 10 20");
        about("Promise 13: or, changing nothing else, for all that can be seen", y -> {
            usualScene(y);
            y.read();
        });
        readInVain("x", -1);
        readInVain("L", -2);
        readInVain("S0 1 1", -1);
        readInVain("L1;L1;L128", -8);
        readInVain("L127;S0 1 1;S1 2 2;", -20);
        readInVain("L127;S0 1 1;S3 2 1", -18);
        idle("read() of no text", 0, LineTimes::read);
        about("Promise 13: a good text changes neither words nor rows nor the way told");
        usualScene(x);
        same("read", x.read(), 1);
        told("0 0 0 1 1000 4430", "1 0 0 1 19400 30000");
        same("exceptions", x.exception(0, 9, true), 2);
        same("rows", x.zone(1, 9, 0), 2);
        same("words", x.change(0, 0, 0, 9), 2);
        same("the change", x.least(1, 0), 60);
        about("Promise 13: stops told later go behind those that came");
        read("L127;S0 10 15", 1);
        same("too early", x.stop(0, 1, 14, 20), 0);
        same("as it leaves", x.stop(0, 1, 15, 20), 1);
        best(0, 1, 0, 15, "0 0 0 1 15 15");
    }

    public static void main(String[] args) {
        Promise13ReadTest test = new Promise13ReadTest();
        test.howMany();
        test.characters();
        test.digits();
        test.numbers();
        test.noRoom();
        test.endsTooEarly();
        test.changesNothingElse();
        test.end();
    }
}
