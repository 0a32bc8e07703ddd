/** signals. */
public final class Promise16Test {
    public static void main(String[] args) {
        Check check = new Check("Promise16Test");
        PortWarden x = Play.opened();
        x.open(0, 1);
        x.foreground(0, 0);
        x.foreground(1, 6);
        x.mode(1, Play.STOPS, 1, 0);
        check.is("none", x.signals(0), 0);
        Play.type(x, "\003");
        check.is("INTERRUPT", x.signals(0), 1);
        check.is("asked for", x.signals(0), 0);
        Play.type(x, "\003\034\032\003");
        check.is("INTERRUPT, QUIT, SUSPEND", x.signals(0), 7);
        x.read(0, 1);
        x.write(0, 1, 'a');
        x.carrier(0, false);
        check.is("hung up, reader, writer", x.signals(0), 8 + 16 + 32);
        check.is("asked for again", x.signals(0), 0);
        check.is("another process", x.signals(6), 0);
        check.is("process -1", x.signals(-1), PortWarden.NONE);
        check.is("process 8", x.signals(8), PortWarden.NONE);
        check.is("process 7", x.signals(7), 0);
        check.finish();
    }
}
