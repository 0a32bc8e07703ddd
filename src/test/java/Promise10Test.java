/** foreground. */
public final class Promise10Test {
    public static void main(String[] args) {
        Check check = new Check("Promise10Test");
        PortWarden x = Play.opened();
        x.open(0, 1);
        check.is("group 4", x.foreground(0, 4), true);
        check.is("stops a reader of group 0", x.read(0, 0), PortWarden.STOPPED);
        check.is("not at another port", x.read(0, 1), PortWarden.WAIT);
        check.is("port -1", x.foreground(-1, 0), false);
        check.is("port 4", x.foreground(4, 0), false);
        check.is("group 8", x.foreground(0, 8), false);
        check.is("group -2", x.foreground(0, -2), false);
        check.is("those changed nothing", x.read(0, 0), PortWarden.STOPPED);
        check.is("none", x.foreground(0, PortWarden.NONE), true);
        check.is("stops no reader", x.read(0, 0), PortWarden.WAIT);
        check.is("group 0", x.foreground(0, 0), true);
        check.is("is the reader's", x.read(0, 0), PortWarden.WAIT);
        check.is("group 7 at port 3", x.foreground(3, 7), true);
        x.receive(3, 28, 0);
        x.tick();
        check.is("QUIT for process 7", x.signals(7), 2);
        check.finish();
    }
}
