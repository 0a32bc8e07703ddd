/** poll. */
public final class Promise15Test {
    public static void main(String[] args) {
        Check check = new Check("Promise15Test");
        reading(check);
        writing(check);
        hungUp(check);
        wrongNumbers(check);
        check.finish();
    }

    private static void reading(Check check) {
        PortWarden x = Play.opened();
        check.is("reading would wait", x.poll(0, 0), 2);
        check.is("reading would be an ERROR", x.poll(1, 0), 1 + 2);
        x.receive(0, 'a', 0);
        check.is("no whole line", x.poll(0, 0), 2);
        x.receive(0, '\n', 0);
        check.is("the port is passed first", x.poll(0, 0), 1 + 2);
        check.is("nothing was taken", x.ready(0), 2);
        Play.read(x);
        x.foreground(0, 5);
        check.is("reading would be STOPPED", x.poll(0, 0), 1 + 2);
        check.is("without a signal", x.signals(0), 0);
        x.foreground(0, 0);
        check.is("reading would wait again", x.poll(0, 0), 2);
        Play.type(x, "\004");
        check.is("reading would say END", x.poll(0, 0), 1 + 2);
    }

    private static void writing(Check check) {
        PortWarden x = Play.opened();
        Play.write(x, "a".repeat(8 + 56));
        check.is("8 are free", x.poll(0, 0), 2);
        Play.write(x, "a");
        check.is("7 are free", x.poll(0, 0), 0);
        x.transmit(0);
        check.is("8 again", x.poll(0, 0), 2);
        x.receive(0, 'b', 0);
        check.is("the port is passed, and echoes", x.poll(0, 0), 0);
    }

    private static void hungUp(Check check) {
        PortWarden x = Play.opened();
        x.carrier(0, false);
        check.is("hung up", x.poll(0, 0), 1 + 2 + 4);
        check.is("for one that hasn't it, too", x.poll(6, 0), 1 + 2 + 4);
        x.carrier(0, true);
        check.is("with a carrier", x.poll(0, 0), 1 + 2 + 4);
        x.open(0, 0);
        check.is("opened", x.poll(0, 0), 2);
    }

    private static void wrongNumbers(Check check) {
        PortWarden x = Play.opened();
        x.receive(0, '\n', 0);
        check.is("process -1", x.poll(-1, 0), PortWarden.NONE);
        check.is("process 8", x.poll(8, 0), PortWarden.NONE);
        check.is("port -1", x.poll(0, -1), PortWarden.NONE);
        check.is("port 4", x.poll(0, 4), PortWarden.NONE);
        check.is("nothing was passed", x.ready(0), 0);
    }
}
