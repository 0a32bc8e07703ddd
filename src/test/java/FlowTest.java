/** Terms: STOP and START that are sent when the store fills and empties. */
public final class FlowTest {
    public static void main(String[] args) {
        Check check = new Check("FlowTest");
        marks(check);
        notYetGone(check);
        whatEmptiesTheStore(check);
        modesWhenTheyGo(check);
        withoutTheMode(check);
        doNotCountForChanges(check);
        check.finish();
    }

    private static PortWarden sending() {
        PortWarden x = Play.raw();
        x.mode(0, Play.SENDS, 1, 0);
        return x;
    }

    private static PortWarden stopped() {
        PortWarden x = sending();
        Play.type(x, 'x', 49);
        x.transmit(0);
        return x;
    }

    private static void readSome(PortWarden x, int times) {
        for (int i = 0; i < times; i++) {
            x.read(0, 0);
        }
    }

    private static void marks(Check check) {
        PortWarden x = sending();
        Play.type(x, 'x', 48);
        check.is("48", x.transmit(0), PortWarden.NONE);
        Play.type(x, "x");
        check.is("49: STOP", x.transmit(0), 19);
        Play.type(x, "xx");
        check.is("once", x.transmit(0), PortWarden.NONE);
        readSome(x, 34);
        check.is("17 left", x.transmit(0), PortWarden.NONE);
        readSome(x, 1);
        check.is("16: START", x.transmit(0), 17);
        readSome(x, 1);
        check.is("once, too", x.transmit(0), PortWarden.NONE);
        Play.type(x, 'x', 34);
        check.is("49 again: STOP", x.transmit(0), 19);
        readSome(x, 10);
        Play.type(x, 'x', 10);
        check.is("no START between", x.transmit(0), PortWarden.NONE);
    }

    private static void notYetGone(Check check) {
        PortWarden x = sending();
        Play.type(x, 'x', 49);
        x.flush(0, 0);
        check.is("START, and STOP is not sent any more", Play.sent(x), "\021");
        Play.type(x, 'x', 49);
        check.is("STOP", x.transmit(0), 19);
        x.flush(0, 0);
        Play.type(x, 'x', 49);
        check.is("STOP again, and START is not sent", Play.sent(x), "\023");
        x.flush(0, 2);
        check.is("a flush of the output keeps START", Play.sent(x), "\021");
    }

    private static void whatEmptiesTheStore(Check check) {
        PortWarden x = stopped();
        Play.type(x, "\003");
        check.is("a signal", x.transmit(0), 17);

        x = stopped();
        Play.type(x, "\032");
        check.is("SUSPEND", x.transmit(0), 17);

        x = stopped();
        x.mode(0, Play.TIME, 1, 2);
        check.is("a change that takes the store away", x.transmit(0), 17);

        x = sending();
        x.mode(0, Play.CANON, 1, 0);
        Play.type(x, 'x', 49);
        check.is("with canon", x.transmit(0), 19);
        Play.type(x, "\025");
        check.is("KILL", x.transmit(0), 17);
        Play.type(x, "ab " + "x".repeat(48) + "\027");
        check.is("WORD", Play.sent(x), "\021");
        Play.type(x, "\025" + "x".repeat(49));
        check.is("STOP", Play.sent(x), "\023");
        Play.type(x, "\177".repeat(32));
        check.is("ERASE to 17", Play.sent(x), "");
        Play.type(x, "\177");
        check.is("ERASE to 16", Play.sent(x), "\021");
        Play.type(x, "\025" + "\004".repeat(49));
        check.is("end marks are entries", Play.sent(x), "\023");
        x.mode(0, Play.CANON, 0, 0);
        check.is("which go without canon", Play.sent(x), "\021");
    }

    private static void modesWhenTheyGo(Check check) {
        PortWarden x = sending();
        Play.type(x, 'x', 49);
        x.mode(0, Play.STOP, 's', 0);
        check.is("STOP as it is when it goes", x.transmit(0), 's');
        readSome(x, 40);
        x.mode(0, Play.START, 256, 0);
        Play.write(x, "a");
        check.is("START that is none is left out, the next byte goes", x.transmit(0), 'a');
        x.mode(0, Play.START, 't', 0);
        check.is("for good", x.transmit(0), PortWarden.NONE);
        Play.type(x, 'x', 40);
        x.mode(0, Play.STOP, 256, 0);
        check.is("STOP that is none", x.transmit(0), PortWarden.NONE);
        check.is("is not counted", x.count(0, 4), 2);
        x.flush(0, 0);
        check.is("START comes all the same", x.transmit(0), 't');
    }

    private static void withoutTheMode(Check check) {
        PortWarden x = Play.raw();
        Play.type(x, 'x', 60);
        check.is("without mode 6", x.transmit(0), PortWarden.NONE);
        x.mode(0, Play.SENDS, 1, 0);
        check.is("not when it is set", x.transmit(0), PortWarden.NONE);
        Play.type(x, "x");
        check.is("when an entry comes", x.transmit(0), 19);
        x.mode(0, Play.SENDS, 0, 0);
        readSome(x, 45);
        check.is("START also when mode 6 went", x.transmit(0), 17);
        Play.type(x, 'x', 40);
        check.is("but no STOP", x.transmit(0), PortWarden.NONE);
        x.mode(0, Play.SENDS, 1, 0);
        x.carrier(0, false);
        Play.type(x, "x");
        check.is("also while hung up", x.transmit(0), 19);
    }

    private static void doNotCountForChanges(Check check) {
        PortWarden x = sending();
        Play.write(x, "a");
        Play.type(x, 'x', 49);
        x.mode(0, Play.TIME, 1, 1);
        check.is("STOP", x.transmit(0), 19);
        check.is("is no byte that a change waits for", x.modeOf(0, Play.TIME), 0);
        check.is("the byte", x.transmit(0), 'a');
        check.is("made", x.modeOf(0, Play.TIME), 1);
        x.flush(0, 0);
        x.mode(0, Play.TIME, 2, 1);
        check.is("nothing waits for START", x.modeOf(0, Play.TIME), 2);
    }
}
