/** Sentences on groups, on signals, on what is stopped, and on what is counted. */
public final class EdgesOfProcessesTest {
    public static void main(String[] args) {
        Check check = new Check("EdgesOfProcessesTest");
        groupsAtFirst(check);
        joining(check);
        foregroundOrNone(check);
        signalsOfTheKeyboard(check);
        foregroundWhenItIsRaised(check);
        storesAreEmptied(check);
        suspendTakesTheStoreAlone(check);
        keptWithModeNine(check);
        thenTheByteIsEchoed(check);
        bytesWithoutModeTwo(check);
        readersThatAreStopped(check);
        writersThatAreStopped(check);
        writersWithoutModeTen(check);
        raisedSinceTheyWereAskedFor(check);
        countedBytes(check);
        countedDropped(check);
        countedEchoes(check);
        countedTransmitted(check);
        check.finish();
    }

    private static void groupsAtFirst(Check check) {
        check.sentence("each in a GROUP 0 .. 7 (at first its own number)");
        for (int group = 0; group < 8; group++) {
            PortWarden x = new PortWarden();
            x.foreground(0, group);
            x.carrier(0, false);
            for (int process = 0; process < 8; process++) {
                check.is("process " + process + " in " + group, x.signals(process), process == group ? 8 : 0);
            }
        }
    }

    private static void joining(Check check) {
        check.sentence("A process joins a group");
        PortWarden x = new PortWarden();
        check.is("joins", x.join(0, 7), true);
        check.is("joins it again", x.join(0, 7), true);
        x.foreground(0, 7);
        x.carrier(0, false);
        check.is("is of it", x.signals(0), 8);
        check.is("as the one that was", x.signals(7), 8);
        x.foreground(1, 0);
        x.carrier(1, false);
        check.is("is of its own no more", x.signals(0), 0);
        check.is("goes back", x.join(0, 0), true);
        x.carrier(1, true);
        x.carrier(1, false);
        check.is("is of its own again", x.signals(0), 8);
    }

    private static void foregroundOrNone(Check check) {
        check.sentence("A port's foreground group, or NONE for none");
        PortWarden x = Play.opened();
        check.is("none at first: no reader is stopped", x.read(0, 0), PortWarden.WAIT);
        check.is("group 7", x.foreground(0, 7), true);
        check.is("a reader is stopped", x.read(0, 0), PortWarden.STOPPED);
        check.is("group 0", x.foreground(0, 0), true);
        check.is("its own", x.read(0, 0), PortWarden.WAIT);
        x.foreground(0, 7);
        check.is("none", x.foreground(0, PortWarden.NONE), true);
        check.is("no reader is stopped", x.read(0, 0), PortWarden.WAIT);
        check.is("less than none", x.foreground(0, -2), false);
        check.is("more than the last", x.foreground(0, 8), false);
    }

    private static void signalsOfTheKeyboard(Check check) {
        check.sentence("signal 1, 2 or 4 is raised for each process of the foreground group (if there is one)");
        int[] codes = {3, 28, 26};
        for (int i = 0; i < 3; i++) {
            PortWarden x = Play.opened();
            x.join(3, 0);
            x.foreground(0, 0);
            Play.type(x, String.valueOf((char) codes[i]));
            for (int process = 0; process < 8; process++) {
                check.is("signal " + (1 << i) + " for " + process, x.signals(process),
                        process == 0 || process == 3 ? 1 << i : 0);
            }
            x.foreground(0, PortWarden.NONE);
            Play.type(x, "ab\n" + (char) codes[i]);
            check.is("if there is none, nobody", x.signals(0) + x.signals(3), 0);
            check.is("but the store is emptied", x.ready(0), 0);
        }
    }

    private static void foregroundWhenItIsRaised(Check check) {
        check.sentence("for each process of the foreground group: when the port is passed");
        PortWarden x = Play.opened();
        x.foreground(0, 0);
        x.receive(0, 3, 0);
        x.foreground(0, 1);
        x.join(2, 1);
        check.is("not before", x.signals(0) + x.signals(1), 0);
        x.tick();
        check.is("not the group of before", x.signals(0), 0);
        check.is("the group of then", x.signals(1), 1);
        check.is("with who joined it", x.signals(2), 1);
    }

    private static void storesAreEmptied(Check check) {
        check.sentence("without mode 9 the store and the output's store are emptied");
        for (int code = 3; code < 29; code += 25) {
            PortWarden x = Play.opened();
            Play.write(x, "0123456789");
            Play.type(x, "ab\nc");
            Play.type(x, String.valueOf((char) code));
            check.is("the store", x.ready(0), 0);
            check.is("the output's store, not the sender", Play.sent(x), "01234567^" + (char) (code + 64));
            Play.type(x, "\n");
            check.is("the open line, too", Play.read(x), "\n");
        }
        PortWarden x = Play.opened();
        x.mode(0, Play.ECHO, 0, 0);
        Play.type(x, 'a', 64);
        x.receive(0, 'b', 0);
        x.receive(0, 3, 0);
        x.receive(0, 'c', 0);
        x.receive(0, '\n', 0);
        check.is("what is behind it in the receiver is not", Play.read(x), "c\n");
        check.is("what is before it was dropped", x.count(0, 2), 1);
    }

    private static void suspendTakesTheStoreAlone(Check check) {
        check.sentence("SUSPEND the store alone");
        PortWarden x = Play.opened();
        Play.type(x, "ab\nc\032");
        check.is("the store", x.ready(0), 0);
        check.is("not the output's store", Play.sent(x), "ab\r\nc^Z");
        Play.type(x, "\n");
        check.is("the open line, too", Play.read(x), "\n");
    }

    private static void keptWithModeNine(Check check) {
        check.sentence("9 KEEPS what is there at a signal");
        int[] codes = {3, 28, 26};
        for (int code : codes) {
            PortWarden x = Play.opened();
            x.mode(0, Play.KEEPS, 1, 0);
            Play.type(x, "ab\nc" + (char) code);
            check.is("the store", x.ready(0), 3);
            check.is("the output's store", Play.sent(x), "ab\r\nc^" + (char) (code + 64));
            Play.type(x, "\n");
            check.is("the open line", Play.read(x), "ab\nc\n");
        }
    }

    private static void thenTheByteIsEchoed(Check check) {
        check.sentence("then the byte is echoed");
        PortWarden x = Play.opened();
        Play.type(x, 'a', 64);
        Play.type(x, "\003");
        check.is("behind the emptying there is room", Play.sent(x), "^C");
        Play.type(x, 'a', 62);
        Play.type(x, "\032");
        check.is("SUSPEND: room for two", x.count(0, 3), 64 + 2 + 62 + 2);
        Play.type(x, "\032");
        check.is("SUSPEND: no room", x.count(0, 3), 64 + 2 + 62 + 2);
        x.mode(0, Play.ECHO, 0, 0);
        Play.type(x, "\003");
        check.is("without mode 1 nothing is", Play.sent(x), "");
        x.mode(0, Play.ECHO, 1, 0);
        x.mode(0, Play.QUIT, 255, 0);
        Play.type(x, "\377");
        check.is("by its form", Play.sent(x), "\377");
    }

    private static void bytesWithoutModeTwo(Check check) {
        check.sentence("With mode 2 INTERRUPT, QUIT, SUSPEND: not without it");
        PortWarden x = Play.opened();
        x.foreground(0, 0);
        x.mode(0, Play.SIGNALS, 0, 0);
        Play.type(x, "a\003\034\032\n");
        check.is("they are bytes", Play.read(x), "a\003\034\032\n");
        check.is("no signal", x.signals(0), 0);
        check.is("echoed", Play.sent(x), "a^C^\\^Z\r\n");
        x.mode(0, Play.SIGNALS, 1, 0);
        Play.type(x, "\003");
        check.is("with it", x.signals(0), 1);
    }

    private static void readersThatAreStopped(Check check) {
        check.sentence("STOPPED (signal 16 for each process of its group) when it is not of the foreground group");
        PortWarden x = Play.opened();
        x.open(1, 0);
        x.join(2, 1);
        Play.type(x, "a\n");
        check.is("there is none: it reads", x.read(1, 0), 'a');
        x.foreground(0, 0);
        check.is("not of it", x.read(1, 0), PortWarden.STOPPED);
        for (int process = 0; process < 8; process++) {
            check.is("signal of " + process, x.signals(process), process == 1 || process == 2 ? 16 : 0);
        }
        check.is("nothing was taken", x.ready(0), 1);
        check.is("one that hasn't it open is not stopped", x.read(2, 0), PortWarden.ERROR);
        check.is("no signal for that", x.signals(2), 0);
        x.join(1, 0);
        check.is("of it", x.read(1, 0), 10);
        x.join(1, 1);
        x.mode(0, Play.STOPS, 0, 0);
        check.is("mode 10 is for writers", x.read(1, 0), PortWarden.STOPPED);
        x.carrier(0, false);
        check.is("also when it is hung up", x.read(1, 0), PortWarden.STOPPED);
    }

    private static void writersThatAreStopped(Check check) {
        check.sentence("STOPPED (signal 32 for each process of its group) when it is not of the foreground group, "
                + "there is one, and mode 10 is on");
        PortWarden x = Play.opened();
        x.open(1, 0);
        x.join(2, 1);
        x.mode(0, Play.STOPS, 1, 0);
        check.is("there is none", x.write(1, 0, 'a'), 1);
        x.foreground(0, 0);
        check.is("not of it", x.write(1, 0, 'b'), PortWarden.STOPPED);
        for (int process = 0; process < 8; process++) {
            check.is("signal of " + process, x.signals(process), process == 1 || process == 2 ? 32 : 0);
        }
        check.is("of it", x.write(0, 0, 'c'), 1);
        x.join(1, 0);
        check.is("of it now", x.write(1, 0, 'd'), 1);
        check.is("written", Play.sent(x), "acd");
    }

    private static void writersWithoutModeTen(Check check) {
        check.sentence("10 STOPS background writers 0 .. 1 (0)");
        PortWarden x = Play.opened();
        x.foreground(0, 7);
        check.is("without it", x.write(0, 0, 'a'), 1);
        check.is("no signal", x.signals(0), 0);
        x.mode(0, Play.STOPS, 1, 0);
        check.is("with it", x.write(0, 0, 'b'), PortWarden.STOPPED);
        check.is("signal", x.signals(0), 32);
        check.is("written", Play.sent(x), "a");
    }

    private static void raisedSinceTheyWereAskedFor(Check check) {
        check.sentence("Signals of a process (bits) raised since they were asked for last");
        PortWarden x = Play.opened();
        x.open(0, 1);
        x.foreground(0, 0);
        x.foreground(1, 7);
        x.mode(1, Play.STOPS, 1, 0);
        check.is("none", x.signals(0), 0);
        Play.type(x, "\003");
        Play.type(x, "\003");
        check.is("twice is one bit", x.signals(0), 1);
        check.is("asked for", x.signals(0), 0);
        Play.type(x, "\003\034\032");
        x.read(0, 1);
        x.write(0, 1, 'a');
        check.is("asking for another's takes nothing", x.signals(7), 0);
        x.carrier(0, false);
        check.is("all six", x.signals(0), 63);
        check.is("asked for again", x.signals(0), 0);
    }

    private static void countedBytes(Check check) {
        check.sentence("0 bytes that the receiver took, 1 overruns");
        PortWarden x = Play.opened();
        check.is("none", x.count(0, 0) + x.count(0, 1), 0);
        for (int i = 0; i < 8; i++) {
            x.receive(0, 'a', i % 4);
        }
        check.is("eight, whatever their flags", x.count(0, 0), 8);
        check.is("no overrun", x.count(0, 1), 0);
        x.receive(0, 'a', 0);
        check.is("an overrun is not taken", x.count(0, 0), 8);
        check.is("an overrun", x.count(0, 1), 1);
        x.tick();
        x.flush(0, 2);
        check.is("nothing takes them back", x.count(0, 0), 8);
        check.is("another port's", x.count(1, 0) + x.count(1, 1), 0);
    }

    private static void countedDropped(Check check) {
        check.sentence("2 dropped ones");
        PortWarden x = Play.opened();
        x.receive(0, 'a', 1);
        check.is("not before it is passed", x.count(0, 2), 0);
        x.tick();
        check.is("a bad one", x.count(0, 2), 1);
        x.mode(0, Play.ECHO, 0, 0);
        Play.type(x, 'a', 64);
        check.is("64 have room", x.count(0, 2), 1);
        Play.type(x, "a");
        check.is("one that has none", x.count(0, 2), 2);
        Play.type(x, "\n\n");
        check.is("the 65th has, the 66th has not", x.count(0, 2), 3);
        Play.type(x, "\004");
        check.is("an end mark", x.count(0, 2), 4);
        Play.type(x, "\003\023\021\026");
        x.receive(0, 'a', 2);
        x.tick();
        check.is("what is not to be stored is not dropped", x.count(0, 2), 4);
        for (int i = 0; i < 9; i++) {
            x.receive(0, 'a', 0);
        }
        x.tick();
        check.is("nor is an overrun", x.count(0, 2), 4);
    }

    private static void countedEchoes(Check check) {
        check.sentence("3 bytes echoed");
        PortWarden x = Play.opened();
        Play.write(x, "abc");
        check.is("not those written", x.count(0, 3), 0);
        Play.type(x, "a");
        check.is("one", x.count(0, 3), 1);
        Play.type(x, "\001");
        check.is("two", x.count(0, 3), 3);
        Play.type(x, "\177");
        check.is("six", x.count(0, 3), 9);
        Play.type(x, "\022");
        check.is("two, two and one", x.count(0, 3), 14);
        Play.type(x, "\n");
        check.is("two more", x.count(0, 3), 16);
        Play.type(x, "\004\026\023\023\021");
        check.is("those that are not echoed, and one as it is", x.count(0, 3), 18);
        Play.type(x, "\003");
        check.is("a signal's two", x.count(0, 3), 20);
        x.flush(0, 1);
        check.is("a flush takes none back", x.count(0, 3), 20);
    }

    private static void countedTransmitted(Check check) {
        check.sentence("4 bytes transmitted (with STOP and START)");
        PortWarden x = Play.raw();
        x.transmit(0);
        check.is("NONE is none", x.count(0, 4), 0);
        Play.write(x, "ab");
        check.is("not those written", x.count(0, 4), 0);
        x.transmit(0);
        check.is("one", x.count(0, 4), 1);
        x.mode(0, Play.SENDS, 1, 0);
        Play.type(x, 'x', 49);
        x.transmit(0);
        check.is("STOP", x.count(0, 4), 2);
        x.flush(0, 0);
        x.transmit(0);
        check.is("START", x.count(0, 4), 3);
        x.clear(0, false);
        x.transmit(0);
        check.is("one that does not go", x.count(0, 4), 3);
        x.flush(0, 1);
        check.is("one that is taken away", x.count(0, 4), 3);
    }
}
