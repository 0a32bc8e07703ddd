/** flush. */
public final class Promise19Test {
    public static void main(String[] args) {
        Check check = new Check("Promise19Test");
        theStore(check);
        theOutput(check);
        both(check);
        wrongNumbers(check);
        check.finish();
    }

    private static PortWarden filled() {
        PortWarden x = Play.opened();
        Play.type(x, "abc\nd");
        Play.write(x, "0123456789");
        x.mode(0, Play.TIME, 4, 1);
        x.receive(0, 'e', 0);
        return x;
    }

    private static void theStore(Check check) {
        PortWarden x = filled();
        check.is("the store", x.flush(0, 0), true);
        check.is("nothing released", x.ready(0), 0);
        check.is("the change waits", x.modeOf(0, Play.TIME), 0);
        check.is("the output stays", Play.sent(x), "abc\r\nd0123456789");
        Play.type(x, "\n");
        check.is("the open line went, the receiver did not", Play.read(x), "e\n");
    }

    private static void theOutput(Check check) {
        PortWarden x = filled();
        check.is("the output", x.flush(0, 1), true);
        check.is("nothing to send", x.held(0), 1);
        check.is("nothing is sent", x.transmit(0), PortWarden.NONE);
        check.is("the change is made", x.modeOf(0, Play.TIME), 4);
        check.is("the store stays", x.ready(0), 4);
        Play.type(x, "\n");
        check.is("all of it", Play.read(x), "abc\nde\n");
    }

    private static void both(Check check) {
        PortWarden x = filled();
        x.mode(0, Play.CANON, 0, 1);
        check.is("both", x.flush(0, 2), true);
        check.is("nothing to send", x.held(0), 1);
        check.is("nothing released", x.ready(0), 0);
        check.is("the changes are made", x.modeOf(0, Play.TIME) + x.modeOf(0, Play.CANON), 4);
        check.is("only the receiver's byte is there", Play.read(x), "e");
    }

    private static void wrongNumbers(Check check) {
        PortWarden x = filled();
        check.is("port -1", x.flush(-1, 0), false);
        check.is("port 4", x.flush(4, 2), false);
        check.is("which -1", x.flush(0, -1), false);
        check.is("which 3", x.flush(0, 3), false);
        check.is("another port", x.flush(3, 2), true);
        check.is("nothing changed", x.ready(0), 4);
        check.is("the output stays", Play.sent(x), "abc\r\nd0123456789");
    }
}
