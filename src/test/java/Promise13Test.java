/** mode: changes at once, and those that wait. */
public final class Promise13Test {
    public static void main(String[] args) {
        Check check = new Check("Promise13Test");
        ranges(check);
        wrongNumbers(check);
        behindWhatWasWritten(check);
        atMostThree(check);
        nothingToWaitFor(check);
        takingTheStore(check);
        bytesTakenAway(check);
        overtaking(check);
        toldAtOnceMakesNoOther(check);
        leavingCanon(check);
        check.finish();
    }

    private static void ranges(Check check) {
        PortWarden x = new PortWarden();
        for (int which = 0; which < 25; which++) {
            int most = which < 12 ? 1 : which == 12 ? 32 : which == 13 ? 20 : 256;
            check.is("most of mode " + which, x.mode(1, which, most, 0), true);
            check.is("most of mode " + which + " is set", x.modeOf(1, which), most);
            check.is("above most of mode " + which, x.mode(1, which, most + 1, 0), false);
            check.is("above, later", x.mode(1, which, most + 1, 1), false);
            check.is("-1 for mode " + which, x.mode(1, which, -1, 0), false);
            check.is("mode " + which + " is kept", x.modeOf(1, which), most);
            check.is("least of mode " + which, x.mode(1, which, 0, 0), true);
            check.is("least of mode " + which + " is set", x.modeOf(1, which), 0);
        }
    }

    private static void wrongNumbers(Check check) {
        PortWarden x = Play.opened();
        check.is("port -1", x.mode(-1, 0, 0, 0), false);
        check.is("port 4", x.mode(4, 0, 0, 0), false);
        check.is("mode -1", x.mode(0, -1, 0, 0), false);
        check.is("mode 25", x.mode(0, 25, 0, 0), false);
        check.is("when -1", x.mode(0, 0, 0, -1), false);
        check.is("when 3", x.mode(0, 0, 0, 3), false);
        check.is("nothing changed", x.modeOf(0, 0), 1);
        Play.write(x, "a");
        x.mode(0, 0, 2, 1);
        x.mode(0, 99, 0, 1);
        x.mode(0, 0, 0, 7);
        for (int i = 0; i < 3; i++) {
            check.is("refused ones do not wait", x.mode(0, Play.KILL, i, 1), true);
        }
        check.is("three wait", x.mode(0, Play.KILL, 9, 1), false);
    }

    private static void behindWhatWasWritten(Check check) {
        PortWarden x = Play.opened();
        Play.write(x, "ab");
        check.is("told", x.mode(0, Play.EXPANDS, 0, 1), true);
        Play.write(x, "\n");
        check.is("told behind more", x.mode(0, Play.TABS, 1, 1), true);
        check.is("waits", x.modeOf(0, Play.EXPANDS), 1);
        x.transmit(0);
        x.tick();
        check.is("waits for the second byte", x.modeOf(0, Play.EXPANDS), 1);
        x.transmit(0);
        check.is("made", x.modeOf(0, Play.EXPANDS), 0);
        check.is("the other waits", x.modeOf(0, Play.TABS), 0);
        check.is("what was written stays as it was", x.transmit(0), '\r');
        Play.write(x, "c");
        check.is("waits still", x.modeOf(0, Play.TABS), 0);
        check.is("its last byte", x.transmit(0), '\n');
        check.is("made, though more was written", x.modeOf(0, Play.TABS), 1);
    }

    private static void atMostThree(Check check) {
        PortWarden x = Play.opened();
        x.open(0, 1);
        x.write(0, 1, 'z');
        Play.write(x, "a");
        for (int i = 0; i < 3; i++) {
            check.is("one more", x.mode(0, Play.ERASE, i, 1 + i % 2), true);
        }
        check.is("a fourth", x.mode(0, Play.ERASE, 9, 1), false);
        check.is("a fourth, taking the store", x.mode(0, Play.ERASE, 9, 2), false);
        check.is("another port has its own", x.mode(1, Play.ERASE, 9, 1), true);
        check.is("at once", x.mode(0, Play.ERASE, 50, 0), true);
        check.is("is made", x.modeOf(0, Play.ERASE), 50);
        x.transmit(0);
        check.is("the last of the three", x.modeOf(0, Play.ERASE), 2);
        check.is("another port's waits", x.modeOf(1, Play.ERASE), 127);
        Play.write(x, "a");
        for (int i = 0; i < 3; i++) {
            check.is("three more", x.mode(0, Play.ERASE, i, 1), true);
        }
        Play.type(x, 'x', 64);
        Play.sent(x);
        check.is("made", x.modeOf(0, Play.ERASE), 2);
    }

    private static void nothingToWaitFor(Check check) {
        PortWarden x = Play.opened();
        check.is("told", x.mode(0, Play.TIME, 7, 1), true);
        check.is("made by telling it", x.modeOf(0, Play.TIME), 7);
        x.mode(0, Play.TIME, 6, 0);
        x.tick();
        check.is("made once", x.modeOf(0, Play.TIME), 6);
        x.mode(0, Play.TIME, 7, 0);
        Play.type(x, "a");
        check.is("told behind an echo in the output's store", x.mode(0, Play.TIME, 8, 1), true);
        check.is("waits for it", x.modeOf(0, Play.TIME), 7);
        x.transmit(0);
        check.is("made behind it", x.modeOf(0, Play.TIME), 8);
    }

    private static void takingTheStore(Check check) {
        PortWarden x = Play.opened();
        Play.type(x, "ab\nc");
        Play.sent(x);
        x.receive(0, 'd', 0);
        check.is("at once keeps the store", x.mode(0, Play.ECHO, 0, 0), true);
        check.is("kept", x.ready(0), 3);
        check.is("behind keeps the store", x.mode(0, Play.ECHO, 1, 1), true);
        check.is("kept, too", x.ready(0), 3);
        Play.write(x, "x");
        check.is("told", x.mode(0, Play.ECHO, 0, 2), true);
        check.is("kept until then", x.ready(0), 3);
        Play.type(x, "e\n");
        check.is("more came meanwhile", x.ready(0), 7);
        Play.sent(x);
        check.is("all was taken away", x.ready(0), 0);
        check.is("and the mode made", x.modeOf(0, Play.ECHO), 0);
        x.receive(0, 'f', 0);
        x.mode(0, Play.ECHO, 0, 2);
        x.receive(0, '\n', 0);
        check.is("the receiver keeps what it has", Play.read(x), "f\n");
    }

    private static void bytesTakenAway(Check check) {
        PortWarden x = Play.opened();
        Play.write(x, "abcdefghij");
        x.mode(0, Play.TIME, 1, 1);
        Play.type(x, "\003");
        check.is("eight are in the sender still", x.modeOf(0, Play.TIME), 0);
        for (int i = 0; i < 7; i++) {
            x.transmit(0);
        }
        check.is("one is left", x.modeOf(0, Play.TIME), 0);
        x.transmit(0);
        check.is("made before the echo has gone", x.modeOf(0, Play.TIME), 1);
        check.is("the echo", Play.sent(x), "^C");

        Play.type(x, "abc");
        x.mode(0, Play.TIME, 2, 1);
        x.mode(0, Play.TIME, 3, 1);
        Play.type(x, "\032");
        check.is("SUSPEND takes no output away", Play.sent(x), "abc^Z");
        check.is("so they waited", x.modeOf(0, Play.TIME), 3);

        Play.type(x, "abc");
        x.mode(0, Play.TIME, 4, 1);
        Play.type(x, "\034");
        check.is("a signal makes none", x.modeOf(0, Play.TIME), 3);
        x.mode(0, Play.LEAST, 5, 1);
        check.is("one more that is told does", x.modeOf(0, Play.TIME), 4);
        check.is("and waits itself for the echo", x.modeOf(0, Play.LEAST), 1);
        x.flush(0, 1);
        check.is("a flush of the output makes it", x.modeOf(0, Play.LEAST), 5);

        Play.type(x, "abc");
        x.mode(0, Play.TIME, 5, 1);
        Play.type(x, "\003");
        x.clear(0, false);
        check.is("nothing goes", x.transmit(0), PortWarden.NONE);
        check.is("but transmit makes it", x.modeOf(0, Play.TIME), 5);
        Play.type(x, "abc");
        x.mode(0, Play.TIME, 6, 1);
        x.receive(0, 3, 0);
        x.tick();
        check.is("the two echoes before are in the sender", x.modeOf(0, Play.TIME), 5);
        x.clear(0, true);
        x.transmit(0);
        x.transmit(0);
        check.is("and have gone", x.modeOf(0, Play.TIME), 6);
    }

    private static void overtaking(Check check) {
        PortWarden x = Play.opened();
        Play.write(x, "a");
        x.mode(0, Play.ECHO, 0, 1);
        x.mode(0, Play.ECHO, 1, 0);
        x.mode(0, Play.KILL, 33, 0);
        check.is("at once", x.modeOf(0, Play.KILL), 33);
        x.transmit(0);
        check.is("the one that waited comes behind", x.modeOf(0, Play.ECHO), 0);
    }

    private static void toldAtOnceMakesNoOther(Check check) {
        PortWarden x = Play.opened();
        Play.type(x, "a");
        x.mode(0, Play.TIME, 9, 1);
        Play.type(x, "\003");
        x.mode(0, Play.LEAST, 3, 0);
        check.is("it waits still", x.modeOf(0, Play.TIME), 0);
        x.flush(0, 0);
        check.is("a flush of the store makes none", x.modeOf(0, Play.TIME), 0);
        x.tick();
        check.is("a tick does", x.modeOf(0, Play.TIME), 9);
    }

    private static void leavingCanon(Check check) {
        PortWarden x = Play.opened();
        Play.type(x, "a\004\004b\nc\004de");
        check.is("released", x.ready(0), 7);
        x.mode(0, Play.CANON, 0, 0);
        check.is("no end marks, all released", x.ready(0), 6);
        check.is("in order", Play.read(x), "ab\ncde");
        x.mode(0, Play.LEAST, 5, 0);
        Play.type(x, "xyz");
        check.is("too few", x.ready(0), 0);
        x.mode(0, Play.CANON, 0, 0);
        check.is("set to 0 again", x.ready(0), 3);
        Play.read(x);
        Play.type(x, "uv");
        x.mode(0, Play.CANON, 1, 0);
        check.is("with canon they are the open line", x.ready(0), 0);
        Play.type(x, "\177w\n");
        check.is("so they can be erased", Play.read(x), "uw\n");
    }
}
