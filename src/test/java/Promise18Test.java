/** column. */
public final class Promise18Test {
    public static void main(String[] args) {
        Check check = new Check("Promise18Test");
        written(check);
        echoed(check);
        check.is("port -1", new PortWarden().column(-1), PortWarden.NONE);
        check.is("port 4", new PortWarden().column(4), PortWarden.NONE);
        check.finish();
    }

    private static void written(Check check) {
        PortWarden x = Play.opened();
        after(check, x, "abc", 3);
        after(check, x, "\b", 2);
        after(check, x, "\b\b\b", 0);
        after(check, x, "\t", 8);
        after(check, x, "\t", 16);
        after(check, x, "a\t", 24);
        after(check, x, "abcdefg\t", 32);
        after(check, x, "\177\0\033\037", 32);
        after(check, x, " ~\200\377", 36);
        after(check, x, "\r", 0);
        after(check, x, "ab\n", 0);
        x.mode(0, Play.EXPANDS, 0, 0);
        after(check, x, "ab\n", 2);
        x.mode(0, Play.TABS, 1, 0);
        after(check, x, "\t", 8);
        check.is("another port", x.column(1), 0);
        Play.sent(x);
        check.is("sending changes nothing", x.column(0), 8);
        Play.write(x, "abc");
        x.flush(0, 1);
        check.is("a flush changes nothing", x.column(0), 11);
    }

    private static void after(Check check, PortWarden x, String text, int due) {
        Play.write(x, text);
        check.is("column behind '" + text.length() + " bytes'", x.column(0), due);
    }

    private static void echoed(Check check) {
        PortWarden x = Play.opened();
        Play.type(x, "ab\001");
        check.is("echoes count: a b ^ A", x.column(0), 4);
        Play.type(x, "\177");
        check.is("an erasure of two", x.column(0), 2);
        Play.type(x, "\t");
        check.is("a tab echoes as ^I", x.column(0), 4);
        Play.type(x, "\n");
        check.is("a newline echoes as 13 10", x.column(0), 0);
        x.receive(0, 'x', 0);
        check.is("not before it is passed", x.column(0), 0);
        x.mode(0, Play.ECHO, 0, 0);
        Play.type(x, "yz");
        check.is("without echo nothing", x.column(0), 0);
    }
}
