/** clear. */
public final class Promise06Test {
    public static void main(String[] args) {
        Check check = new Check("Promise06Test");
        PortWarden x = Play.opened();
        x.open(0, 1);
        Play.write(x, "ab");
        x.write(0, 1, 'c');
        check.is("not clear", x.clear(0, false), true);
        check.is("nothing goes", x.transmit(0), PortWarden.NONE);
        check.is("that is why", x.held(0), 3);
        check.is("another port sends", x.transmit(1), 'c');
        check.is("not clear again", x.clear(0, false), true);
        check.is("clear", x.clear(0, true), true);
        check.is("it goes", x.transmit(0), 'a');
        check.is("clear again", x.clear(0, true), true);
        check.is("it goes on", x.transmit(0), 'b');
        check.is("port -1", x.clear(-1, false), false);
        check.is("port 4", x.clear(4, true), false);
        check.finish();
    }
}
