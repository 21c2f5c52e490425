/** Promise 12: sign. */
final class Promise12SignTest extends Bench {
    /** 31 lines in 500 characters. */
    private static String longestText() {
        String stops = ";S2 000000 000000".repeat(12);
        return "L0" + stops + ";L0" + stops + ";L0".repeat(29);
    }

    private void behindTheText() {
        about("Promise 12: a character behind the text");
        x.sign('L');
        x.sign('1');
        x.sign('2');
        same("L12", x.read(), 1);
        x.sign('1');
        x.sign('L');
        same("1L", x.read(), -1);
        about("Promise 12: it stays there, whatever is called before read");
        x.sign('L');
        x.line(0);
        x.earliest(0, 1, 0);
        x.zone(0, 0, 0);
        x.sign('1');
        same("L1", x.read(), 1);
        same("the next line", x.line(0), 2);
    }

    private void bounds() {
        about("Promise 12: IllegalArgumentException when it is not 32 .. 126");
        taken("32", 0, y -> sign(y, 32));
        taken("126", 0, y -> sign(y, 126));
        for (int c : new int[] {31, 127, 0, 10, 128, 160, -1, 256 + 'L', 65536 + 'L', Integer.MIN_VALUE, Integer.MAX_VALUE}) {
            noNumber("sign(" + c + ")", y -> sign(y, c));
        }
        about("Promise 12: each one of 32 .. 126 is a character more");
        for (int c = 32; c <= 126; c++) {
            boolean digit = c >= '0' && c <= '9';
            x.sign('L');
            x.sign('0');
            x.sign(c);
            same("read() of L0" + (char) c, x.read(), digit ? 1 : c == ';' ? -4 : -3);
        }
    }

    private void room() {
        about("Promise 12: there is room for the 500th character");
        String text = longestText();
        same("the length of the longest text", text.length(), 500);
        read(text, 31);
        same("all of it was read", x.line(0), 31);
        about("Promise 12: UnsupportedOperationException when it has 500");
        sign(x, text);
        throwsOf(ROOM, "the 501st", y -> sign(y, 'L'));
        throwsOf(ROOM, "the 501st, a blank", y -> sign(y, ' '));
        same("the text is as it was", x.read(), 31);
        about("Promise 12: of IllegalArgumentException and UnsupportedOperationException the first");
        sign(x, text);
        throwsOf(NUMBER, "the 501st is 31", y -> sign(y, 31));
        throwsOf(NUMBER, "the 501st is 127", y -> sign(y, 127));
        same("the text is as it was", x.read(), 31);
        about("Promise 12: when it has 499 there is room, of good characters alone");
        sign(x, text.substring(0, 499));
        throwsOf(NUMBER, "the 500th is 127", y -> sign(y, 127));
        same("the 500th", sign(x, '7'), 0);
        throwsOf(ROOM, "the 501st", y -> sign(y, '7'));
        same("the text", x.read(), 31);
        about("Promise 12 (and 13): when it was read there is room again");
        sign(x, text);
        same("the longest text", x.read(), 31);
        read("L0;L0", 2);
        about("Promise 12 (and 13): when it was read in vain there is room again");
        sign(x, "x".repeat(500));
        same("a bad text", x.read(), -1);
        read("L0;L0", 2);
    }

    public static void main(String[] args) {
        Promise12SignTest test = new Promise12SignTest();
        test.behindTheText();
        test.bounds();
        test.room();
        test.end();
    }
}
