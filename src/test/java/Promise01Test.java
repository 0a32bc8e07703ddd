/** A new object. */
public final class Promise01Test {
    private static final int[] FIRST = {
        1, 1, 1, 1, 1, 0, 0, 1, 0, 0, 0, 0, 1, 0, 127, 23, 21, 22, 18, 4, 3, 28, 26, 17, 19
    };

    public static void main(String[] args) {
        Check check = new Check("Promise01Test");
        PortWarden x = new PortWarden();
        for (int port = 0; port < 4; port++) {
            for (int which = 0; which < FIRST.length; which++) {
                check.is("mode " + which + " of port " + port, x.modeOf(port, which), FIRST[which]);
            }
            for (int what = 0; what < 5; what++) {
                check.is("counter " + what, x.count(port, what), 0);
            }
            check.is("column", x.column(port), 0);
            check.is("ready", x.ready(port), 0);
            check.is("held", x.held(port), 1);
        }
        noneIsOpen(check);
        carrierIsOnAndClear(check);
        eachInItsOwnGroup(check);
        check.finish();
    }

    private static void noneIsOpen(Check check) {
        PortWarden x = new PortWarden();
        for (int process = 0; process < 8; process++) {
            for (int port = 0; port < 4; port++) {
                check.is("read before open", x.read(process, port), PortWarden.ERROR);
                check.is("write before open", x.write(process, port, 'a'), PortWarden.ERROR);
                check.is("close before open", x.close(process, port), false);
                check.is("poll says: not hung up", x.poll(process, port) & 4, 0);
            }
            check.is("no signal", x.signals(process), 0);
        }
    }

    private static void carrierIsOnAndClear(Check check) {
        PortWarden x = new PortWarden();
        for (int port = 0; port < 4; port++) {
            check.is("open with the first carrier", x.open(7, port), true);
            check.is("write", x.write(7, port, 'a'), 1);
            check.is("clear to send", x.held(port), 0);
            check.is("transmit", x.transmit(port), 'a');
            check.is("no foreground group stops a reader", x.read(7, port), PortWarden.WAIT);
        }
    }

    private static void eachInItsOwnGroup(Check check) {
        PortWarden x = new PortWarden();
        for (int group = 0; group < 8; group++) {
            x.foreground(0, group);
            x.receive(0, 3, 0);
            x.tick();
            for (int process = 0; process < 8; process++) {
                check.is("group " + group + " and process " + process, x.signals(process), process == group ? 1 : 0);
            }
        }
    }
}
