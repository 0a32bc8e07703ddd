/** transmit. */
public final class Promise03Test {
    public static void main(String[] args) {
        Check check = new Check("Promise03Test");
        takesInOrder(check);
        whatKeepsItBack(check);
        pushesBeforeAndBehind(check);
        urgentBytesGoAhead(check);
        check.is("port -1", new PortWarden().transmit(-1), PortWarden.NONE);
        check.is("port 4", new PortWarden().transmit(4), PortWarden.NONE);
        check.finish();
    }

    private static void takesInOrder(Check check) {
        PortWarden x = Play.opened();
        check.is("nothing there", x.transmit(0), PortWarden.NONE);
        Play.write(x, "abcdefghijklmnopqrst");
        check.is("all of it", Play.sent(x), "abcdefghijklmnopqrst");
        check.is("transmitted", x.count(0, 4), 20);
        check.is("nothing left", x.transmit(0), PortWarden.NONE);
        check.is("NONE is not counted", x.count(0, 4), 20);
        check.is("a byte 255", x.write(0, 0, 255), 1);
        check.is("a byte 255 goes", x.transmit(0), 255);
        check.is("a byte 0", x.write(0, 0, 0), 1);
        check.is("a byte 0 goes", x.transmit(0), 0);
    }

    private static void whatKeepsItBack(Check check) {
        PortWarden x = Play.opened();
        Play.write(x, "abc");
        Play.type(x, "\023");
        check.is("held", x.transmit(0), PortWarden.NONE);
        x.clear(0, false);
        Play.type(x, "\021");
        check.is("not clear", x.transmit(0), PortWarden.NONE);
        x.clear(0, true);
        check.is("goes on", Play.sent(x), "abc");
    }

    private static void pushesBeforeAndBehind(Check check) {
        PortWarden x = Play.opened();
        Play.type(x, "a");
        check.is("an echo that was only in the output's store goes", x.transmit(0), 'a');
        x.clear(0, false);
        Play.type(x, "bcdefghijk");
        check.is("not clear", x.transmit(0), PortWarden.NONE);
        x.receive(0, 3, 0);
        x.poll(0, 0);
        x.clear(0, true);
        check.is("eight were pushed, which a signal does not take away", Play.sent(x), "bcdefghi^C");

        Play.type(x, "abcdefghijk");
        check.is("one goes, and the ninth comes behind it", x.transmit(0), 'a');
        Play.type(x, "\003");
        check.is("left in the sender", Play.sent(x), "bcdefghi^C");
    }

    private static void urgentBytesGoAhead(Check check) {
        PortWarden x = Play.raw();
        x.mode(0, Play.SENDS, 1, 0);
        Play.write(x, "ab");
        Play.type(x, "\023");
        x.clear(0, false);
        Play.type(x, 'x', 49);
        check.is("STOP goes, held and not clear", x.transmit(0), 19);
        check.is("once", x.transmit(0), PortWarden.NONE);
        check.is("counted", x.count(0, 4), 1);
        x.flush(0, 0);
        Play.type(x, "\021");
        x.clear(0, true);
        check.is("START goes ahead", Play.sent(x), "\021ab");
        check.is("counted, then", x.count(0, 4), 4);
    }
}
