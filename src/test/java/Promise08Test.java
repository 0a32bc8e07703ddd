/** close. */
public final class Promise08Test {
    public static void main(String[] args) {
        Check check = new Check("Promise08Test");
        PortWarden x = new PortWarden();
        check.is("not open", x.close(1, 2), false);
        x.open(1, 2);
        x.open(1, 3);
        x.open(2, 2);
        x.write(1, 2, 'a');
        check.is("open", x.close(1, 2), true);
        check.is("twice", x.close(1, 2), false);
        check.is("read", x.read(1, 2), PortWarden.ERROR);
        check.is("another port stays open", x.read(1, 3), PortWarden.WAIT);
        check.is("another process keeps it", x.read(2, 2), PortWarden.WAIT);
        check.is("what was written goes", x.transmit(2), 'a');
        x.carrier(2, false);
        check.is("while it is hung up", x.close(2, 2), true);
        check.is("twice while it is hung up", x.close(2, 2), false);
        check.is("process -1", x.close(-1, 3), false);
        check.is("process 8", x.close(8, 3), false);
        check.is("port -1", x.close(1, -1), false);
        check.is("port 4", x.close(1, 4), false);
        check.is("those closed nothing", x.close(1, 3), true);
        check.finish();
    }
}
