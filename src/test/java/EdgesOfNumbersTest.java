import java.util.function.ToIntFunction;

/** The numbers that each call takes: the first and the last of each range, those beside them, and what refusing does. */
public final class EdgesOfNumbersTest {
    private static final int[] NO_PORTS = {-1, 4, Integer.MIN_VALUE, Integer.MAX_VALUE};
    private static final int[] NO_PROCESSES = {-1, 8, Integer.MIN_VALUE, Integer.MAX_VALUE};
    private static final int[] NO_GROUPS = {8, -2, Integer.MIN_VALUE, Integer.MAX_VALUE};
    private static final int[] NO_BYTES = {-1, 256, Integer.MIN_VALUE, Integer.MAX_VALUE};

    public static void main(String[] args) {
        Check check = new Check("EdgesOfNumbersTest");
        portsThatAre(check);
        portsThatAreNot(check);
        processesThatAre(check);
        processesThatAreNot(check);
        groups(check);
        bytesAndFlags(check);
        modeNumbers(check);
        whenAMode(check);
        whatIsCounted(check);
        whatIsFlushed(check);
        check.finish();
    }

    private static void portsThatAre(Check check) {
        check.sentence("PORTS 0 .. 3");
        for (int port = 0; port < 4; port++) {
            PortWarden x = new PortWarden();
            check.is("open " + port, x.open(0, port), true);
            check.is("receive " + port, x.receive(port, 'a', 0), true);
            check.is("read " + port, x.read(0, port), PortWarden.WAIT);
            check.is("poll " + port, x.poll(0, port), 2);
            check.is("write " + port, x.write(0, port, 'b'), 1);
            check.is("held " + port, x.held(port), 0);
            check.is("column " + port, x.column(port), 2);
            check.is("transmit " + port, x.transmit(port), 'a');
            check.is("count " + port, x.count(port, 4), 1);
            check.is("ready " + port, x.ready(port), 0);
            check.is("mode " + port, x.mode(port, Play.TIME, 20, 0), true);
            check.is("modeOf " + port, x.modeOf(port, Play.TIME), 20);
            check.is("foreground " + port, x.foreground(port, 0), true);
            check.is("flush " + port, x.flush(port, 1), true);
            check.is("clear " + port, x.clear(port, false), true);
            check.is("carrier " + port, x.carrier(port, false), true);
            check.is("close " + port, x.close(0, port), true);
        }
    }

    private static void portsThatAreNot(Check check) {
        check.sentence("Calls with numbers that are not as said are refused: ports");
        for (int port : NO_PORTS) {
            refused(check, "receive " + port, 0, x -> x.receive(port, 'a', 0) ? 1 : 0);
            refused(check, "transmit " + port, PortWarden.NONE, x -> x.transmit(port));
            refused(check, "held " + port, PortWarden.NONE, x -> x.held(port));
            refused(check, "carrier off " + port, 0, x -> x.carrier(port, false) ? 1 : 0);
            refused(check, "carrier on " + port, 0, x -> x.carrier(port, true) ? 1 : 0);
            refused(check, "clear off " + port, 0, x -> x.clear(port, false) ? 1 : 0);
            refused(check, "clear on " + port, 0, x -> x.clear(port, true) ? 1 : 0);
            refused(check, "open " + port, 0, x -> x.open(5, port) ? 1 : 0);
            refused(check, "close " + port, 0, x -> x.close(0, port) ? 1 : 0);
            refused(check, "foreground " + port, 0, x -> x.foreground(port, 3) ? 1 : 0);
            refused(check, "no foreground " + port, 0, x -> x.foreground(port, PortWarden.NONE) ? 1 : 0);
            refused(check, "write " + port, PortWarden.NONE, x -> x.write(0, port, 'a'));
            refused(check, "read " + port, PortWarden.NONE, x -> x.read(0, port));
            refused(check, "mode at once " + port, 0, x -> x.mode(port, 1, 0, 0) ? 1 : 0);
            refused(check, "mode behind " + port, 0, x -> x.mode(port, 1, 0, 2) ? 1 : 0);
            refused(check, "modeOf " + port, PortWarden.NONE, x -> x.modeOf(port, 0));
            refused(check, "poll " + port, PortWarden.NONE, x -> x.poll(0, port));
            refused(check, "count " + port, PortWarden.NONE, x -> x.count(port, 0));
            refused(check, "column " + port, PortWarden.NONE, x -> x.column(port));
            refused(check, "flush " + port, 0, x -> x.flush(port, 2) ? 1 : 0);
            refused(check, "ready " + port, PortWarden.NONE, x -> x.ready(port));
        }
    }

    private static void processesThatAre(Check check) {
        check.sentence("PROCESSES 0 .. 7");
        for (int process = 0; process < 8; process++) {
            PortWarden x = new PortWarden();
            check.is("open by " + process, x.open(process, 0), true);
            check.is("write by " + process, x.write(process, 0, 'a'), 1);
            check.is("read by " + process, x.read(process, 0), PortWarden.WAIT);
            check.is("poll by " + process, x.poll(process, 0), 2);
            check.is("join by " + process, x.join(process, 0), true);
            check.is("signals of " + process, x.signals(process), 0);
            check.is("close by " + process, x.close(process, 0), true);
        }
    }

    private static void processesThatAreNot(Check check) {
        check.sentence("Calls with numbers that are not as said are refused: processes");
        for (int process : NO_PROCESSES) {
            refused(check, "open by " + process, 0, x -> x.open(process, 1) ? 1 : 0);
            refused(check, "close by " + process, 0, x -> x.close(process, 0) ? 1 : 0);
            refused(check, "join by " + process, 0, x -> x.join(process, 0) ? 1 : 0);
            refused(check, "write by " + process, PortWarden.NONE, x -> x.write(process, 0, 'a'));
            refused(check, "read by " + process, PortWarden.NONE, x -> x.read(process, 0));
            refused(check, "poll by " + process, PortWarden.NONE, x -> x.poll(process, 0));
            refused(check, "signals of " + process, PortWarden.NONE, x -> x.signals(process));
        }
    }

    private static void groups(Check check) {
        check.sentence("each in a GROUP 0 .. 7; a port has a FOREGROUND group or none");
        for (int group = 0; group < 8; group++) {
            PortWarden x = new PortWarden();
            check.is("join " + group, x.join(0, group), true);
            check.is("foreground " + group, x.foreground(0, group), true);
        }
        check.is("no foreground", new PortWarden().foreground(0, PortWarden.NONE), true);
        for (int group : NO_GROUPS) {
            refused(check, "join " + group, 0, x -> x.join(0, group) ? 1 : 0);
            refused(check, "foreground " + group, 0, x -> x.foreground(0, group) ? 1 : 0);
        }
        refused(check, "join none", 0, x -> x.join(0, PortWarden.NONE) ? 1 : 0);
    }

    private static void bytesAndFlags(Check check) {
        check.sentence("The line delivers a byte 0 .. 255 with flags 0 .. 3");
        for (int b : NO_BYTES) {
            refused(check, "receive " + b, 0, x -> x.receive(0, b, 0) ? 1 : 0);
            refused(check, "write " + b, PortWarden.NONE, x -> x.write(0, 0, b));
            refused(check, "write by one that hasn't it " + b, PortWarden.NONE, x -> x.write(6, 0, b));
        }
        for (int flags : new int[] {-1, 4, Integer.MIN_VALUE, Integer.MAX_VALUE}) {
            refused(check, "flags " + flags, 0, x -> x.receive(0, 'a', flags) ? 1 : 0);
        }
        for (int flags = 0; flags < 4; flags++) {
            PortWarden x = Play.opened();
            check.is("byte 0, flags " + flags, x.receive(0, 0, flags), true);
            check.is("byte 255, flags " + flags, x.receive(0, 255, flags), true);
        }
        PortWarden x = Play.opened();
        check.is("write 0", x.write(0, 0, 0), 1);
        check.is("write 255", x.write(0, 0, 255), 1);
    }

    private static void modeNumbers(Check check) {
        check.sentence("MODES of a port, by number, 0 .. 24, with their values");
        for (int which : new int[] {-1, 25, Integer.MIN_VALUE, Integer.MAX_VALUE}) {
            refused(check, "mode " + which, 0, x -> x.mode(0, which, 0, 0) ? 1 : 0);
            refused(check, "later mode " + which, 0, x -> x.mode(0, which, 0, 1) ? 1 : 0);
            refused(check, "modeOf " + which, PortWarden.NONE, x -> x.modeOf(0, which));
        }
        for (int i = 0; i < 25; i++) {
            int which = i;
            int most = mostOf(which);
            for (int when = 0; when < 3; when++) {
                int then = when;
                PortWarden y = new PortWarden();
                check.is("least of " + which, y.mode(0, which, 0, when), true);
                check.is("least of " + which + " is set", y.modeOf(0, which), 0);
                check.is("most of " + which, y.mode(0, which, most, when), true);
                check.is("most of " + which + " is set", y.modeOf(0, which), most);
                refused(check, "less of " + which, 0, x -> x.mode(0, which, -1, then) ? 1 : 0);
                refused(check, "more of " + which, 0, x -> x.mode(0, which, most + 1, then) ? 1 : 0);
            }
        }
        refused(check, "the least number", 0, x -> x.mode(0, 14, Integer.MIN_VALUE, 0) ? 1 : 0);
        refused(check, "the greatest number", 0, x -> x.mode(0, 14, Integer.MAX_VALUE, 0) ? 1 : 0);
    }

    private static int mostOf(int which) {
        return which <= 11 ? 1 : which == 12 ? 32 : which == 13 ? 20 : 256;
    }

    private static void whenAMode(Check check) {
        check.sentence("when 0 at once, 1 behind what was written, 2 likewise");
        for (int when = 0; when < 3; when++) {
            check.is("when " + when, new PortWarden().mode(0, 1, 0, when), true);
        }
        for (int when : new int[] {-1, 3, Integer.MIN_VALUE, Integer.MAX_VALUE}) {
            refused(check, "when " + when, 0, x -> x.mode(0, 1, 0, when) ? 1 : 0);
        }
    }

    private static void whatIsCounted(Check check) {
        check.sentence("What was counted since the beginning: 0 .. 4; NONE");
        for (int what = 0; what < 5; what++) {
            check.is("what " + what, new PortWarden().count(0, what), 0);
        }
        for (int what : new int[] {-1, 5, Integer.MIN_VALUE, Integer.MAX_VALUE}) {
            refused(check, "what " + what, PortWarden.NONE, x -> x.count(0, what));
        }
    }

    private static void whatIsFlushed(Check check) {
        check.sentence("The store (which 0), the output's store and the sender (1), or both (2)");
        for (int which = 0; which < 3; which++) {
            check.is("which " + which, new PortWarden().flush(0, which), true);
        }
        for (int which : new int[] {-1, 3, Integer.MIN_VALUE, Integer.MAX_VALUE}) {
            refused(check, "which " + which, 0, x -> x.flush(0, which) ? 1 : 0);
        }
    }

    /** The call answers as due, and an object that had it does not differ from its twin that had not. */
    private static void refused(Check check, String what, int due, ToIntFunction<PortWarden> call) {
        PortWarden had = busy();
        check.is(what, call.applyAsInt(had), due);
        check.is(what + " changes nothing", shown(had), shown(busy()));
    }

    /** An object with something in every part of ports 0 and 3. */
    private static PortWarden busy() {
        PortWarden x = new PortWarden();
        for (int port = 0; port < 4; port += 3) {
            x.open(0, port);
            x.open(1, port);
            x.foreground(port, 0);
            type(x, port, "ab\ncd\026");
            x.read(1, port);
            x.foreground(port, 1 - port / 3);
            for (int i = 0; i < 10; i++) {
                x.write(0, port, '0' + i);
            }
            x.mode(port, Play.TIME, 3, 1);
            x.mode(port, Play.KILL, 'k', 2);
            type(x, port, "\003");
            x.receive(port, 'e', 0);
            x.receive(port, 'f', 1);
        }
        x.clear(3, false);
        return x;
    }

    private static void type(PortWarden x, int port, String text) {
        for (char c : text.toCharArray()) {
            x.receive(port, c, 0);
        }
        x.poll(7, port);
    }

    /** All that can be asked of an object, and then all that it gives. */
    private static String shown(PortWarden x) {
        StringBuilder out = new StringBuilder();
        for (int process = 0; process < 8; process++) {
            out.append(x.signals(process)).append(' ');
        }
        for (int port = 0; port < 4; port++) {
            out.append("/ ").append(x.column(port)).append(' ').append(x.ready(port)).append(' ').append(x.held(port));
            for (int what = 0; what < 5; what++) {
                out.append(' ').append(x.count(port, what));
            }
        }
        for (int port = 0; port < 4; port += 3) {
            showModes(x, port, out);
            giveAll(x, port, out);
        }
        return out.toString();
    }

    private static void showModes(PortWarden x, int port, StringBuilder out) {
        for (int which = 0; which < 25; which++) {
            out.append(' ').append(x.modeOf(port, which));
        }
    }

    private static void giveAll(PortWarden x, int port, StringBuilder out) {
        out.append(x.mode(port, Play.WORD, 'w', 1)).append(x.mode(port, Play.WORD, 'v', 1));
        for (int i = 0; i < 12; i++) {
            out.append(' ').append(x.transmit(port));
        }
        x.foreground(port, PortWarden.NONE);
        for (int i = 0; i < 8; i++) {
            out.append(' ').append(x.read(0, port));
        }
        out.append(x.poll(1, port)).append(x.transmit(port)).append(x.close(1, port)).append(x.close(5, port));
        showModes(x, port, out);
    }
}
