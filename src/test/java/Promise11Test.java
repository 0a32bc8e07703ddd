/** write. */
public final class Promise11Test {
    public static void main(String[] args) {
        Check check = new Check("Promise11Test");
        errors(check);
        background(check);
        room(check);
        expansion(check);
        pushed(check);
        wrongNumbers(check);
        check.finish();
    }

    private static void errors(Check check) {
        PortWarden x = new PortWarden();
        check.is("not open", x.write(0, 0, 'a'), PortWarden.ERROR);
        x.mode(0, Play.STOPS, 1, 0);
        x.foreground(0, 4);
        check.is("not open comes before stopped", x.write(0, 0, 'a'), PortWarden.ERROR);
        x.open(0, 0);
        x.carrier(0, false);
        check.is("hung up comes before stopped", x.write(0, 0, 'a'), PortWarden.ERROR);
        check.is("no signal", x.signals(0), 0);
    }

    private static void background(Check check) {
        PortWarden x = Play.opened();
        x.join(1, 0);
        x.foreground(0, 4);
        check.is("without mode 10", x.write(0, 0, 'a'), 1);
        x.mode(0, Play.STOPS, 1, 0);
        check.is("with mode 10", x.write(0, 0, 'b'), PortWarden.STOPPED);
        check.is("signal", x.signals(0), 32);
        check.is("signal for its group", x.signals(1), 32);
        check.is("not for others", x.signals(4), 0);
        check.is("nothing was written", Play.sent(x), "a");
        x.foreground(0, 0);
        check.is("of the foreground group", x.write(0, 0, 'c'), 1);
        x.foreground(0, PortWarden.NONE);
        check.is("no foreground group", x.write(0, 0, 'd'), 1);
        x.foreground(0, 4);
        Play.type(x, 'x', 63);
        check.is("stopped comes before WAIT", x.write(0, 0, '\n'), PortWarden.STOPPED);
    }

    private static void room(Check check) {
        PortWarden x = Play.opened();
        for (int i = 0; i < 72; i++) {
            check.is("byte " + i, x.write(0, 0, 'a'), 1);
        }
        check.is("sender and output's store are full", x.write(0, 0, 'b'), PortWarden.WAIT);
        x.transmit(0);
        check.is("room for one, not for 13 10", x.write(0, 0, '\n'), PortWarden.WAIT);
        check.is("nothing of it was written", x.column(0), 72);
        check.is("room for one", x.write(0, 0, 'c'), 1);
        check.is("full again", x.write(0, 0, 'd'), PortWarden.WAIT);
        x.transmit(0);
        x.transmit(0);
        check.is("room for two", x.write(0, 0, '\n'), 1);
        check.is("all", Play.sent(x), "a".repeat(69) + "c\r\n");
        x.mode(0, Play.TABS, 1, 0);
        Play.write(x, "a".repeat(65));
        check.is("seven blanks fit just", x.write(0, 0, '\t'), 1);
        check.is("no more", x.write(0, 0, '\t'), PortWarden.WAIT);
        Play.sent(x);
        Play.write(x, "a".repeat(66));
        check.is("column", x.column(0), 138);
        check.is("six blanks fit just", x.write(0, 0, '\t'), 1);
        Play.sent(x);
        Play.write(x, "a".repeat(67));
        check.is("column, then", x.column(0), 211);
        check.is("five blanks fit just", x.write(0, 0, '\t'), 1);
        check.is("and fill it", x.write(0, 0, 'a'), PortWarden.WAIT);
    }

    private static void expansion(Check check) {
        PortWarden x = Play.opened();
        Play.write(x, "a\n\t\r\b\177\0");
        check.is("a newline becomes 13 10, a tab stays", Play.sent(x), "a\r\n\t\r\b\177\0");
        x.mode(0, Play.EXPANDS, 0, 0);
        Play.write(x, "b\n");
        check.is("a newline stays", Play.sent(x), "b\n");
        check.is("and so does the column", x.column(0), 1);
        x.mode(0, Play.TABS, 1, 0);
        Play.write(x, "\t");
        check.is("seven blanks", Play.sent(x), " ".repeat(7));
        Play.write(x, "\t");
        check.is("eight blanks", Play.sent(x), " ".repeat(8));
        Play.write(x, "abcdefg\t");
        check.is("one blank at least", Play.sent(x), "abcdefg ");
        check.is("column", x.column(0), 24);
        check.is("writing is not an echo", x.count(0, 3), 0);
    }

    private static void pushed(Check check) {
        PortWarden x = Play.opened();
        Play.write(x, "abcdefghij");
        Play.type(x, "\003");
        check.is("eight were in the sender", Play.sent(x), "abcdefgh^C");
        Play.type(x, "kl");
        Play.write(x, "m");
        Play.type(x, "\003");
        check.is("what stood before it is pushed too", Play.sent(x), "klm^C");
    }

    private static void wrongNumbers(Check check) {
        PortWarden x = Play.opened();
        check.is("process -1", x.write(-1, 0, 'a'), PortWarden.NONE);
        check.is("process 8", x.write(8, 0, 'a'), PortWarden.NONE);
        check.is("port -1", x.write(0, -1, 'a'), PortWarden.NONE);
        check.is("port 4", x.write(0, 4, 'a'), PortWarden.NONE);
        check.is("byte -1", x.write(0, 0, -1), PortWarden.NONE);
        check.is("byte 256", x.write(0, 0, 256), PortWarden.NONE);
        check.is("a wrong byte comes before ERROR", x.write(1, 0, 256), PortWarden.NONE);
        check.is("nothing was written", x.held(0), 1);
        check.is("byte 255", x.write(0, 0, 255), 1);
        check.is("byte 0", x.write(0, 0, 0), 1);
        check.is("both go", Play.sent(x), "\377\0");
    }
}
