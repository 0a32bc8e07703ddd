/** held. */
public final class Promise04Test {
    public static void main(String[] args) {
        Check check = new Check("Promise04Test");
        reasons(check);
        urgentBytes(check);
        changesNothing(check);
        check.is("port -1", new PortWarden().held(-1), PortWarden.NONE);
        check.is("port 4", new PortWarden().held(4), PortWarden.NONE);
        check.finish();
    }

    private static void reasons(Check check) {
        PortWarden x = Play.opened();
        check.is("nothing there", x.held(0), 1);
        x.clear(0, false);
        check.is("nothing there, not clear", x.held(0), 1);
        Play.type(x, "\023");
        check.is("nothing there, held, not clear", x.held(0), 1);
        Play.write(x, "a");
        check.is("held, not clear", x.held(0), 2);
        x.clear(0, true);
        check.is("held", x.held(0), 2);
        Play.type(x, "\021");
        check.is("it would go", x.held(0), 0);
        x.clear(0, false);
        check.is("not clear", x.held(0), 3);
        x.clear(0, true);
        check.is("goes", x.transmit(0), 'a');
        check.is("nothing there again", x.held(0), 1);
        Play.type(x, "b");
        check.is("a byte in the output's store counts as pushed", x.held(0), 0);
        check.is("another port", x.held(3), 1);
    }

    private static void urgentBytes(Check check) {
        PortWarden x = Play.raw();
        x.mode(0, Play.SENDS, 1, 0);
        x.clear(0, false);
        Play.type(x, 'x', 49);
        check.is("STOP would go", x.held(0), 0);
        x.mode(0, Play.STOP, 256, 0);
        check.is("STOP is none: nothing there", x.held(0), 1);
        Play.write(x, "a");
        check.is("STOP is none: not clear", x.held(0), 3);
        x.mode(0, Play.STOP, 7, 0);
        check.is("asking did not leave it out", x.transmit(0), 7);
    }

    private static void changesNothing(Check check) {
        PortWarden x = Play.opened();
        Play.type(x, "abc");
        check.is("three bytes", x.held(0), 0);
        Play.type(x, "\003");
        check.is("they were not pushed by asking", Play.sent(x), "^C");
    }
}
