/** Sentences on changes of mode, those that wait, and on flushes. */
public final class EdgesOfChangesTest {
    public static void main(String[] args) {
        Check check = new Check("EdgesOfChangesTest");
        atOnce(check);
        behindAllBytes(check);
        behindBytesOfBothRooms(check);
        notBehindLaterBytes(check);
        notBehindUrgentBytes(check);
        takenAwayByASignal(check);
        keptByASignal(check);
        takenAwayByAFlush(check);
        atMostThree(check);
        threeOfEachPort(check);
        roomForOneMore(check);
        madeInOrder(check);
        madeOnce(check);
        takingTheStoreAway(check);
        madeByTransmit(check);
        madeByTick(check);
        madeByOneMore(check);
        notMadeByOthers(check);
        overtaken(check);
        theValueNow(check);
        flushOfTheStore(check);
        flushOfTheOutput(check);
        flushOfBoth(check);
        check.finish();
    }

    private static void atOnce(Check check) {
        check.sentence("MODES CHANGE at once");
        PortWarden x = Play.opened();
        Play.write(x, "abc");
        check.is("told", x.mode(0, Play.TIME, 5, 0), true);
        check.is("made, whatever was written", x.modeOf(0, Play.TIME), 5);
        check.is("the same again", x.mode(0, Play.TIME, 5, 0), true);
        check.is("of this port alone", x.modeOf(1, Play.TIME), 0);
        Play.type(x, "a\n");
        x.mode(0, Play.TIME, 6, 0);
        check.is("without taking the store away", x.ready(0), 2);
    }

    private static void behindAllBytes(Check check) {
        check.sentence("behind all bytes that were in the output's store and the sender when that was told");
        for (int bytes = 0; bytes < 3; bytes++) {
            PortWarden x = Play.opened();
            Play.write(x, "w".repeat(bytes));
            check.is("told behind " + bytes, x.mode(0, Play.TIME, 5, 1), true);
            for (int gone = 0; gone < bytes; gone++) {
                check.is(gone + " of " + bytes, x.modeOf(0, Play.TIME), 0);
                x.transmit(0);
            }
            check.is("all of " + bytes, x.modeOf(0, Play.TIME), 5);
        }
    }

    private static void behindBytesOfBothRooms(Check check) {
        check.sentence("in the output's store and the sender");
        PortWarden x = Play.opened();
        Play.write(x, "w".repeat(72));
        x.mode(0, Play.TIME, 5, 1);
        for (int i = 0; i < 71; i++) {
            x.transmit(0);
        }
        check.is("71 of 72", x.modeOf(0, Play.TIME), 0);
        x.transmit(0);
        check.is("72 of 72", x.modeOf(0, Play.TIME), 5);
        Play.type(x, "a");
        x.mode(0, Play.TIME, 6, 1);
        check.is("an echo that was not pushed", x.modeOf(0, Play.TIME), 5);
        x.tick();
        check.is("pushing is not going", x.modeOf(0, Play.TIME), 5);
        x.transmit(0);
        check.is("it has gone", x.modeOf(0, Play.TIME), 6);
    }

    private static void notBehindLaterBytes(Check check) {
        check.sentence("that were in the output's store and the sender when that was told: not later ones");
        PortWarden x = Play.opened();
        x.write(0, 0, 'a');
        x.mode(0, Play.TIME, 5, 1);
        x.write(0, 0, 'b');
        x.mode(0, Play.TIME, 6, 1);
        x.write(0, 0, 'c');
        x.transmit(0);
        check.is("the first behind the first", x.modeOf(0, Play.TIME), 5);
        x.transmit(0);
        check.is("the second behind the second", x.modeOf(0, Play.TIME), 6);
        check.is("the third is there still", x.transmit(0), 'c');
    }

    private static void notBehindUrgentBytes(Check check) {
        check.sentence("in the output's store and the sender: STOP and START are in neither");
        PortWarden x = Play.raw();
        x.mode(0, Play.SENDS, 1, 0);
        Play.type(x, 'x', 49);
        x.mode(0, Play.TIME, 5, 1);
        check.is("nothing is waited for", x.modeOf(0, Play.TIME), 5);
        x.write(0, 0, 'a');
        x.mode(0, Play.TIME, 6, 1);
        check.is("STOP goes", x.transmit(0), 19);
        check.is("it is not the byte", x.modeOf(0, Play.TIME), 5);
        x.transmit(0);
        check.is("this is", x.modeOf(0, Play.TIME), 6);
    }

    private static void takenAwayByASignal(Check check) {
        check.sentence("(and not taken away by a signal or a flush): a signal");
        for (int code = 3; code < 29; code += 25) {
            PortWarden x = Play.opened();
            Play.write(x, "w".repeat(10));
            x.mode(0, Play.TIME, 5, 1);
            Play.type(x, String.valueOf((char) code));
            for (int i = 0; i < 7; i++) {
                x.transmit(0);
            }
            check.is("7 of the sender's 8", x.modeOf(0, Play.TIME), 0);
            x.transmit(0);
            check.is("8; not the two that were taken away, nor the echo", x.modeOf(0, Play.TIME), 5);
            check.is("which goes behind", x.transmit(0), '^');
        }
    }

    private static void keptByASignal(Check check) {
        check.sentence("(and not taken away by a signal or a flush): SUSPEND, and mode 9, take no output");
        for (int code = 3; code < 27; code += 23) {
            PortWarden x = Play.opened();
            x.mode(0, Play.KEEPS, code == 3 ? 1 : 0, 0);
            Play.type(x, "ab");
            x.mode(0, Play.TIME, 5, 1);
            Play.type(x, String.valueOf((char) code));
            x.transmit(0);
            check.is("one of two", x.modeOf(0, Play.TIME), 0);
            x.transmit(0);
            check.is("both", x.modeOf(0, Play.TIME), 5);
        }
    }

    private static void takenAwayByAFlush(Check check) {
        check.sentence("(and not taken away by a signal or a flush): a flush");
        for (int which = 1; which < 3; which++) {
            PortWarden x = Play.opened();
            Play.write(x, "w".repeat(72));
            for (int i = 0; i < 3; i++) {
                x.mode(0, Play.TIME, 5 + i, 1);
            }
            check.is("they wait", x.modeOf(0, Play.TIME), 0);
            x.flush(0, which);
            check.is("all are made by flush " + which, x.modeOf(0, Play.TIME), 7);
        }
        PortWarden x = Play.opened();
        x.write(0, 0, 'a');
        x.mode(0, Play.TIME, 5, 1);
        x.flush(0, 0);
        check.is("not by one of the store", x.modeOf(0, Play.TIME), 0);
    }

    private static void atMostThree(Check check) {
        check.sentence("at most 3 of a port wait; false also when three wait already (when is not 0)");
        PortWarden x = Play.opened();
        x.write(0, 0, 'a');
        for (int i = 1; i < 4; i++) {
            check.is("number " + i, x.mode(0, Play.TIME, i, 1 + i % 2), true);
        }
        check.is("a fourth", x.mode(0, Play.TIME, 4, 1), false);
        check.is("a fourth that takes the store", x.mode(0, Play.TIME, 4, 2), false);
        check.is("one at once", x.mode(0, Play.TIME, 9, 0), true);
        check.is("it is made", x.modeOf(0, Play.TIME), 9);
        x.transmit(0);
        check.is("the third was the last", x.modeOf(0, Play.TIME), 3);
    }

    private static void threeOfEachPort(Check check) {
        check.sentence("at most 3 of a port wait: each port by itself");
        PortWarden x = Play.opened();
        x.open(0, 3);
        x.write(0, 0, 'a');
        x.write(0, 3, 'b');
        for (int i = 1; i < 4; i++) {
            x.mode(0, Play.TIME, i, 1);
        }
        for (int i = 1; i < 4; i++) {
            check.is("number " + i + " of port 3", x.mode(3, Play.TIME, 10 + i, 1), true);
        }
        check.is("a fourth", x.mode(3, Play.TIME, 4, 1), false);
        x.transmit(3);
        check.is("made at port 3", x.modeOf(3, Play.TIME), 13);
        check.is("not at port 0", x.modeOf(0, Play.TIME), 0);
    }

    private static void roomForOneMore(Check check) {
        check.sentence("at most 3 of a port wait: those that were made wait no more");
        PortWarden x = Play.opened();
        x.write(0, 0, 'a');
        x.mode(0, Play.TIME, 1, 1);
        x.write(0, 0, 'b');
        x.mode(0, Play.TIME, 2, 1);
        x.mode(0, Play.TIME, 3, 1);
        check.is("three", x.mode(0, Play.TIME, 4, 1), false);
        x.transmit(0);
        check.is("one was made", x.modeOf(0, Play.TIME), 1);
        check.is("one more", x.mode(0, Play.TIME, 4, 1), true);
        check.is("three again", x.mode(0, Play.TIME, 5, 1), false);
        x.transmit(0);
        check.is("all", x.modeOf(0, Play.TIME), 4);
        for (int i = 0; i < 5; i++) {
            check.is("those with nothing to wait for never fill it", x.mode(0, Play.TIME, i, 1), true);
        }
    }

    private static void madeInOrder(Check check) {
        check.sentence("they are made in order, ... from the first on, as far as they have nothing left to wait for");
        PortWarden x = Play.opened();
        x.write(0, 0, 'a');
        x.mode(0, Play.TIME, 1, 1);
        x.mode(0, Play.TIME, 2, 1);
        x.write(0, 0, 'b');
        x.mode(0, Play.TIME, 3, 1);
        x.transmit(0);
        check.is("the first two, the second last", x.modeOf(0, Play.TIME), 2);
        x.transmit(0);
        check.is("the third", x.modeOf(0, Play.TIME), 3);
    }

    private static void madeOnce(Check check) {
        check.sentence("at most 3 of a port wait, and they are made: once");
        PortWarden x = Play.opened();
        x.mode(0, Play.TIME, 1, 1);
        check.is("one that had nothing to wait for", x.modeOf(0, Play.TIME), 1);
        x.mode(0, Play.TIME, 9, 0);
        x.transmit(0);
        x.tick();
        check.is("is not made again", x.modeOf(0, Play.TIME), 9);
        x.write(0, 0, 'a');
        for (int i = 1; i < 4; i++) {
            x.mode(0, Play.TIME, i, 1);
        }
        x.transmit(0);
        check.is("three that waited", x.modeOf(0, Play.TIME), 3);
        x.mode(0, Play.TIME, 9, 0);
        x.tick();
        x.flush(0, 1);
        x.carrier(0, false);
        check.is("are not made again", x.modeOf(0, Play.TIME), 9);
    }

    private static void takingTheStoreAway(Check check) {
        check.sentence("without or with taking the store away; 2 likewise, taking the store away then");
        PortWarden x = Play.opened();
        Play.type(x, "ab\nc");
        x.mode(0, Play.TIME, 1, 1);
        Play.sent(x);
        check.is("without", x.ready(0), 3);
        x.write(0, 0, 'a');
        x.mode(0, Play.TIME, 2, 2);
        check.is("not before it is made", x.ready(0), 3);
        Play.type(x, "d\n");
        check.is("nor when more comes", x.ready(0), 6);
        x.receive(0, 'e', 0);
        x.transmit(0);
        check.is("with it, what came later, too", x.ready(0), 0);
        Play.type(x, "\n");
        check.is("but not what is in the receiver", Play.read(x), "e\n");
        Play.sent(x);
        Play.type(x, "f\n");
        Play.sent(x);
        x.mode(0, Play.TIME, 3, 2);
        check.is("at once if nothing is to go", x.ready(0), 0);
        x.write(0, 0, 'a');
        Play.type(x, "g");
        x.mode(0, Play.CANON, 0, 2);
        Play.sent(x);
        check.is("before the mode is made: nothing is released", x.ready(0), 0);
    }

    private static void madeByTransmit(Check check) {
        check.sentence("by transmit: waiting changes whose bytes have gone are made behind it");
        PortWarden x = Play.opened();
        x.write(0, 0, 'a');
        x.mode(0, Play.TIME, 1, 1);
        x.clear(0, false);
        check.is("nothing goes", x.transmit(0), PortWarden.NONE);
        check.is("nothing is made", x.modeOf(0, Play.TIME), 0);
        x.clear(0, true);
        x.transmit(0);
        check.is("made", x.modeOf(0, Play.TIME), 1);
        Play.type(x, "b");
        x.mode(0, Play.TIME, 2, 1);
        Play.type(x, "\003");
        x.clear(0, false);
        check.is("nothing goes, but its byte was taken away", x.transmit(0), PortWarden.NONE);
        check.is("made by that", x.modeOf(0, Play.TIME), 2);
        x.flush(0, 1);
        x.clear(0, true);
        Play.type(x, "b");
        x.mode(0, Play.TIME, 3, 1);
        Play.type(x, "\003");
        check.is("its byte was taken away, and the echo goes", x.transmit(0), '^');
        check.is("made by that, too", x.modeOf(0, Play.TIME), 3);
        x.flush(0, 1);
        x.write(0, 0, 'c');
        x.mode(0, Play.STOP, 'p', 1);
        Play.write(x, "d");
        x.transmit(0);
        Play.type(x, "p");
        check.is("it holds from then on", x.held(0), 2);
    }

    private static void madeByTick(Check check) {
        check.sentence("by tick: waiting changes whose bytes have gone are made");
        PortWarden x = Play.opened();
        Play.type(x, "a");
        x.mode(0, Play.TIME, 1, 1);
        x.tick();
        check.is("its byte has not gone", x.modeOf(0, Play.TIME), 0);
        x.flush(0, 1);
        Play.type(x, "a");
        x.mode(0, Play.TIME, 2, 1);
        x.receive(0, 3, 0);
        x.tick();
        check.is("the signal that it passed took it away", x.modeOf(0, Play.TIME), 2);
        PortWarden y = Play.raw();
        y.mode(0, Play.LEAST, 9, 0);
        y.mode(0, Play.ECHO, 1, 0);
        Play.type(y, "\001");
        y.mode(0, Play.TIME, 1, 1);
        Play.type(y, "\003a");
        y.tick();
        check.is("it is made", y.modeOf(0, Play.TIME), 1);
        check.is("behind the look at TIME", y.ready(0), 0);
        y.tick();
        check.is("which the next tick heeds", y.ready(0), 1);
    }

    private static void madeByOneMore(Check check) {
        check.sentence("whenever one more is told (from the first on, as far as they have nothing left to wait for)");
        PortWarden x = Play.opened();
        Play.type(x, "a");
        x.mode(0, Play.TIME, 1, 1);
        Play.type(x, "\003");
        check.is("the signal made none", x.modeOf(0, Play.TIME), 0);
        x.mode(0, Play.LEAST, 7, 1);
        check.is("telling one more did", x.modeOf(0, Play.TIME), 1);
        check.is("that one waits for the echo", x.modeOf(0, Play.LEAST), 1);
        Play.sent(x);
        check.is("no more", x.modeOf(0, Play.LEAST), 7);
        Play.type(x, "a");
        for (int i = 0; i < 3; i++) {
            x.mode(0, Play.TIME, 11 + i, 1);
        }
        Play.type(x, "\003");
        check.is("three wait already, though none for a byte", x.mode(0, Play.LEAST, 8, 1), false);
        check.is("one that is refused changes nothing", x.modeOf(0, Play.TIME), 1);
        x.tick();
        check.is("a tick does", x.modeOf(0, Play.TIME), 13);
    }

    private static void notMadeByOthers(Check check) {
        check.sentence("by transmit, by tick, by a flush of the output, and whenever one more is told: by no other");
        PortWarden x = Play.opened();
        Play.type(x, "a");
        x.mode(0, Play.TIME, 1, 1);
        Play.type(x, "\003");
        x.read(0, 0);
        x.poll(0, 0);
        x.write(0, 0, 'b');
        x.flush(0, 0);
        x.mode(0, Play.LEAST, 2, 0);
        x.clear(0, true);
        x.carrier(0, true);
        x.held(0);
        check.is("it waits", x.modeOf(0, Play.TIME), 0);
        x.transmit(1);
        x.flush(1, 2);
        check.is("also while another port is sent and flushed", x.modeOf(0, Play.TIME), 0);
        x.flush(0, 1);
        check.is("a flush of the output makes it", x.modeOf(0, Play.TIME), 1);
    }

    private static void overtaken(Check check) {
        check.sentence("A change at once overtakes those");
        PortWarden x = Play.opened();
        x.write(0, 0, 'a');
        x.mode(0, Play.TIME, 1, 1);
        x.mode(0, Play.TIME, 2, 0);
        check.is("at once", x.modeOf(0, Play.TIME), 2);
        x.transmit(0);
        check.is("the one that waited comes later", x.modeOf(0, Play.TIME), 1);
    }

    private static void theValueNow(Check check) {
        check.sentence("A mode's value now");
        PortWarden x = Play.opened();
        check.is("at first", x.modeOf(3, Play.LEAST), 1);
        x.mode(3, Play.LEAST, 32, 0);
        check.is("changed", x.modeOf(3, Play.LEAST), 32);
        x.mode(3, Play.LEAST, 33, 0);
        check.is("not by one that is refused", x.modeOf(3, Play.LEAST), 32);
        x.write(0, 0, 'a');
        x.mode(0, Play.LEAST, 5, 2);
        check.is("not by one that waits", x.modeOf(0, Play.LEAST), 1);
    }

    private static PortWarden filled() {
        PortWarden x = Play.opened();
        Play.type(x, "ab\nc");
        Play.write(x, "0123456789");
        x.mode(0, Play.TIME, 4, 1);
        x.receive(0, 'd', 0);
        return x;
    }

    private static void flushOfTheStore(Check check) {
        check.sentence("The store (which 0) is emptied");
        PortWarden x = filled();
        x.flush(0, 0);
        check.is("nothing released", x.ready(0), 0);
        check.is("the output stays", Play.sent(x), "ab\r\nc0123456789");
        Play.type(x, "\n");
        check.is("the receiver stays", Play.read(x), "d\n");
        check.is("of an empty one", x.flush(0, 0), true);
        x.mode(0, Play.ECHO, 0, 0);
        Play.type(x, 'x', 64);
        x.flush(0, 0);
        Play.type(x, 'y', 64);
        Play.type(x, "\n");
        check.is("room for 64 again", x.ready(0), 65);
    }

    private static void flushOfTheOutput(Check check) {
        check.sentence("the output's store and the sender (1)");
        PortWarden x = filled();
        x.flush(0, 1);
        check.is("neither has any", x.transmit(0), PortWarden.NONE);
        check.is("the store stays", x.ready(0), 3);
        check.is("the change is made", x.modeOf(0, Play.TIME), 4);
        check.is("of an empty one", x.flush(0, 1), true);
        check.is("room for 72 again", Play.write(x, "w".repeat(72)), 1);
        x.flush(0, 1);
        check.is("and again", Play.write(x, "w".repeat(72)), 1);
        check.is("and no more", x.write(0, 0, 'w'), PortWarden.WAIT);
    }

    private static void flushOfBoth(Check check) {
        check.sentence("or both (2, in this order) are emptied; behind 1 and 2 waiting changes are made");
        PortWarden x = filled();
        x.mode(0, Play.CANON, 0, 1);
        x.flush(0, 2);
        check.is("the store was emptied first", x.ready(0), 0);
        check.is("the output", x.transmit(0), PortWarden.NONE);
        check.is("the changes are made", x.modeOf(0, Play.TIME) - x.modeOf(0, Play.CANON), 4);
        check.is("the receiver stays", Play.read(x), "d");
        check.is("what was counted stays", x.count(0, 3), 6);
    }
}
