/** modeOf. */
public final class Promise14Test {
    public static void main(String[] args) {
        Check check = new Check("Promise14Test");
        PortWarden x = Play.opened();
        check.is("at first", x.modeOf(2, Play.SUSPEND), 26);
        x.mode(2, Play.SUSPEND, 256, 0);
        check.is("set to none", x.modeOf(2, Play.SUSPEND), 256);
        check.is("another port's", x.modeOf(1, Play.SUSPEND), 26);
        check.is("another mode", x.modeOf(2, Play.QUIT), 28);
        Play.write(x, "a");
        x.mode(0, Play.TIME, 3, 1);
        check.is("the value now, not the one that waits", x.modeOf(0, Play.TIME), 0);
        check.is("port -1", x.modeOf(-1, 0), PortWarden.NONE);
        check.is("port 4", x.modeOf(4, 0), PortWarden.NONE);
        check.is("mode -1", x.modeOf(0, -1), PortWarden.NONE);
        check.is("mode 25", x.modeOf(0, 25), PortWarden.NONE);
        check.is("mode 24", x.modeOf(3, 24), 19);
        check.finish();
    }
}
