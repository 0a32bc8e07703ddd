/** read. */
public final class Promise12Test {
    public static void main(String[] args) {
        Check check = new Check("Promise12Test");
        lines(check);
        errors(check);
        background(check);
        hungUp(check);
        wrongNumbers(check);
        check.finish();
    }

    private static void lines(Check check) {
        PortWarden x = Play.opened();
        check.is("nothing there", x.read(0, 0), PortWarden.WAIT);
        x.receive(0, 'a', 0);
        check.is("no whole line", x.read(0, 0), PortWarden.WAIT);
        x.receive(0, '\n', 0);
        check.is("the port is passed first", x.read(0, 0), 'a');
        check.is("the newline", x.read(0, 0), '\n');
        check.is("no more", x.read(0, 0), PortWarden.WAIT);
        Play.type(x, "bc\004\004d\ne");
        check.is("end marks and lines", Play.read(x), "bc$$d\n");
        check.is("an open line waits", x.read(0, 0), PortWarden.WAIT);
    }

    private static void errors(Check check) {
        PortWarden x = Play.opened();
        x.foreground(0, 0);
        x.receive(0, 'a', 0);
        x.receive(0, '\n', 0);
        check.is("not open", x.read(1, 0), PortWarden.ERROR);
        check.is("no signal", x.signals(1), 0);
        check.is("but the port was passed", x.ready(0), 2);
        check.is("and nothing taken", x.read(0, 0), 'a');
    }

    private static void background(Check check) {
        PortWarden x = Play.opened();
        x.open(1, 0);
        x.join(1, 4);
        x.join(2, 4);
        x.foreground(0, 0);
        Play.type(x, "a\n");
        check.is("stopped", x.read(1, 0), PortWarden.STOPPED);
        check.is("signal", x.signals(1), 16);
        check.is("signal for its group", x.signals(2) + x.signals(4), 32);
        check.is("not for the foreground", x.signals(0), 0);
        check.is("nothing was taken", x.read(0, 0), 'a');
        x.foreground(0, PortWarden.NONE);
        check.is("no foreground group", x.read(1, 0), '\n');
        x.foreground(0, 0);
        x.carrier(0, false);
        check.is("stopped comes before END", x.read(1, 0), PortWarden.STOPPED);
        x.receive(0, 'b', 0);
        x.receive(0, '\n', 0);
        check.is("stopped once more", x.read(1, 0), PortWarden.STOPPED);
        check.is("the port was passed", x.ready(0), 2);
    }

    private static void hungUp(Check check) {
        PortWarden x = Play.opened();
        Play.type(x, "a\nb");
        x.carrier(0, false);
        check.is("released ones first", x.read(0, 0), 'a');
        check.is("all of them", x.read(0, 0), '\n');
        check.is("then END", x.read(0, 0), PortWarden.END);
        check.is("again and again", x.read(0, 0), PortWarden.END);
        check.is("not open comes before END", x.read(1, 0), PortWarden.ERROR);
        x.carrier(0, true);
        x.open(0, 0);
        check.is("not any more", x.read(0, 0), PortWarden.WAIT);
        Play.type(x, "\n");
        check.is("the open line was kept", Play.read(x), "b\n");
    }

    private static void wrongNumbers(Check check) {
        PortWarden x = Play.opened();
        x.receive(0, '\n', 0);
        check.is("process -1", x.read(-1, 0), PortWarden.NONE);
        check.is("process 8", x.read(8, 0), PortWarden.NONE);
        check.is("nothing was passed", x.ready(0), 0);
        check.is("port -1", x.read(0, -1), PortWarden.NONE);
        check.is("port 4", x.read(0, 4), PortWarden.NONE);
        check.is("process 7, port 3", x.read(7, 3), PortWarden.ERROR);
    }
}
