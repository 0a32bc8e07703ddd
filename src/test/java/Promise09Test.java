/** join. */
public final class Promise09Test {
    public static void main(String[] args) {
        Check check = new Check("Promise09Test");
        PortWarden x = Play.opened();
        x.foreground(0, 3);
        check.is("of its own group", x.read(0, 0), PortWarden.STOPPED);
        check.is("joins", x.join(0, 3), true);
        check.is("is of the foreground group now", x.read(0, 0), PortWarden.WAIT);
        check.is("joins again", x.join(0, 3), true);
        check.is("joins another", x.join(0, 7), true);
        x.signals(0);
        Play.type(x, "\003");
        check.is("is not of the group any more", x.signals(0), 0);
        check.is("another is", x.signals(3), 1);
        check.is("process -1", x.join(-1, 0), false);
        check.is("process 8", x.join(8, 0), false);
        check.is("group -1", x.join(0, -1), false);
        check.is("group 8", x.join(0, 8), false);
        x.foreground(0, 7);
        check.is("those changed nothing", x.read(0, 0), PortWarden.WAIT);
        check.is("process 7, group 0", x.join(7, 0), true);
        check.finish();
    }
}
