/** Longer plays on a port that the tests have in common. */
final class Play {
    /** What erasing one byte of a form echoes. */
    static final String RUB = "\b \b";

    static final int CANON = 0, ECHO = 1, SIGNALS = 2, MAPS = 3, HEEDS = 4, ANY = 5, SENDS = 6, EXPANDS = 7,
            TABS = 8, KEEPS = 9, STOPS = 10, BAD = 11, LEAST = 12, TIME = 13, ERASE = 14, WORD = 15, KILL = 16,
            LITERAL = 17, REPRINT = 18, END = 19, INTERRUPT = 20, QUIT = 21, SUSPEND = 22, START = 23, STOP = 24;

    private Play() {
    }

    /** A new object whose process 0 has port 0 open. */
    static PortWarden opened() {
        PortWarden x = new PortWarden();
        x.open(0, 0);
        return x;
    }

    /** The same without canon, echo and expansion, so that bytes come and go as they are. */
    static PortWarden raw() {
        PortWarden x = opened();
        x.mode(0, CANON, 0, 0);
        x.mode(0, ECHO, 0, 0);
        x.mode(0, EXPANDS, 0, 0);
        return x;
    }

    /** The line delivers a text, and port 0 is passed. */
    static void type(PortWarden x, String text) {
        for (int i = 0; i < text.length(); i++) {
            x.receive(0, text.charAt(i), 0);
            if (i % 8 == 7) {
                x.poll(0, 0);
            }
        }
        x.poll(0, 0);
    }

    static void type(PortWarden x, char c, int times) {
        type(x, String.valueOf(c).repeat(times));
    }

    /** Process 0 writes a text to port 0; the last answer. */
    static int write(PortWarden x, String text) {
        int answer = 1;
        for (int i = 0; i < text.length(); i++) {
            answer = x.write(0, 0, text.charAt(i));
        }
        return answer;
    }

    /** All that the line takes from port 0 until there is none. */
    static String sent(PortWarden x) {
        StringBuilder out = new StringBuilder();
        for (int b = x.transmit(0); b != PortWarden.NONE; b = x.transmit(0)) {
            out.append((char) b);
        }
        return out.toString();
    }

    /** All that process 0 reads from port 0 until it would wait; an end mark shows as a '$'. */
    static String read(PortWarden x) {
        StringBuilder out = new StringBuilder();
        for (int i = 0; i < 70; i++) {
            int b = x.read(0, 0);
            if (b != PortWarden.END && b < 0) {
                break;
            }
            out.append(b == PortWarden.END ? '$' : (char) b);
        }
        return out.toString();
    }
}
