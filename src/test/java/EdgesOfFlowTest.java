/** Sentences on flow control: stop and start that are heeded, and those that are sent. */
public final class EdgesOfFlowTest {
    public static void main(String[] args) {
        Check check = new Check("EdgesOfFlowTest");
        stopHoldsStartLetsGo(check);
        withoutHeed(check);
        anyByteLetsGo(check);
        moreThanFortyEight(check);
        whenAnEntryComes(check);
        stopOnce(check);
        sixteenOrLess(check);
        startOnce(check);
        startWithoutTheMode(check);
        stopThatHasNotGone(check);
        startThatHasNotGone(check);
        whateverTakesEntries(check);
        aheadOfAllOthers(check);
        bytesWhenTheyGo(check);
        oneThatIsNone(check);
        eachPortForItself(check);
        check.finish();
    }

    private static PortWarden sending() {
        PortWarden x = Play.raw();
        x.mode(0, Play.SENDS, 1, 0);
        return x;
    }

    private static void readSome(PortWarden x, int times) {
        for (int i = 0; i < times; i++) {
            x.read(0, 0);
        }
    }

    private static void stopHoldsStartLetsGo(Check check) {
        check.sentence("with mode 4 STOP: output is HELD; START: it isn't any more");
        PortWarden x = Play.opened();
        Play.write(x, "ab");
        Play.type(x, "\021");
        check.is("START when it isn't", x.held(0), 0);
        Play.type(x, "\023");
        check.is("STOP", x.held(0), 2);
        Play.type(x, "\023");
        check.is("STOP again", x.held(0), 2);
        Play.type(x, "\021");
        check.is("one START is enough", Play.sent(x), "ab");
        check.is("neither is echoed", x.count(0, 3), 0);
        Play.type(x, "\n");
        check.is("nor stored", Play.read(x), "\n");
    }

    private static void withoutHeed(Check check) {
        check.sentence("with mode 4: not without it");
        PortWarden x = Play.opened();
        x.mode(0, Play.HEEDS, 0, 0);
        Play.write(x, "a");
        Play.type(x, "\023\021\n");
        check.is("nothing is held", x.held(0), 0);
        check.is("they are bytes", Play.read(x), "\023\021\n");
        check.is("echoed", Play.sent(x), "a^S^Q\r\n");
        x.mode(0, Play.HEEDS, 1, 0);
        Play.type(x, "\023");
        Play.write(x, "b");
        x.mode(0, Play.HEEDS, 0, 0);
        x.mode(0, Play.ANY, 1, 0);
        check.is("what is held stays so", x.held(0), 2);
        Play.type(x, "\021c");
        check.is("and mode 5 is nothing without mode 4", x.held(0), 2);
    }

    private static void anyByteLetsGo(Check check) {
        check.sentence("with mode 5 any other byte lets it go, and comes on to what follows");
        String others = "a\n\r\003\034\032\177\026\022\004";
        for (char other : others.toCharArray()) {
            PortWarden x = Play.opened();
            Play.write(x, "w");
            Play.type(x, "\023" + other);
            check.is("without it " + (int) other, x.held(0), 2);
            PortWarden y = Play.opened();
            y.mode(0, Play.ANY, 1, 0);
            Play.write(y, "w");
            Play.type(y, "\023" + other);
            check.is("with it " + (int) other, y.held(0), 0);
            check.is("both do what follows", y.count(0, 3) + 100 * y.ready(0), x.count(0, 3) + 100 * x.ready(0));
        }
        PortWarden x = Play.opened();
        x.mode(0, Play.ANY, 1, 0);
        Play.write(x, "w");
        Play.type(x, "\023\023");
        check.is("STOP is no other", x.held(0), 2);
        x.receive(0, 'a', 1);
        x.poll(0, 0);
        check.is("nor is one that is dropped", x.held(0), 2);
        x.receive(0, 'a', 2);
        x.poll(0, 0);
        check.is("nor is a break, which is no byte", x.held(0), 2);
        Play.type(x, "\021\026\023");
        check.is("a STOP behind LITERAL holds nothing", x.held(0), 0);
    }

    private static void moreThanFortyEight(Check check) {
        check.sentence("with mode 6, when an entry comes and the store has more than 48 then, STOP is to be sent");
        PortWarden x = sending();
        Play.type(x, 'x', 48);
        check.is("48", x.held(0), 1);
        check.is("nothing goes", x.transmit(0), PortWarden.NONE);
        Play.type(x, "x");
        check.is("49", x.held(0), 0);
        check.is("STOP goes", x.transmit(0), 19);
        PortWarden y = sending();
        y.mode(0, Play.CANON, 1, 0);
        Play.type(y, "\004".repeat(48));
        check.is("48 end marks", y.transmit(0), PortWarden.NONE);
        Play.type(y, "\004");
        check.is("49 end marks", y.transmit(0), 19);
        PortWarden z = Play.raw();
        Play.type(z, 'x', 64);
        check.is("without mode 6", z.transmit(0), PortWarden.NONE);
    }

    private static void whenAnEntryComes(Check check) {
        check.sentence("when an entry comes and the store has more than 48 then");
        PortWarden x = Play.raw();
        Play.type(x, 'x', 49);
        x.mode(0, Play.SENDS, 1, 0);
        x.tick();
        check.is("not when the mode comes", x.transmit(0), PortWarden.NONE);
        Play.type(x, "\023\021");
        check.is("not for a byte that is no entry", x.transmit(0), PortWarden.NONE);
        Play.type(x, "x");
        check.is("for the next entry", x.transmit(0), 19);
        PortWarden y = Play.raw();
        Play.type(y, 'x', 64);
        y.mode(0, Play.SENDS, 1, 0);
        Play.type(y, "x");
        check.is("a dropped one does not come to the store", y.transmit(0), PortWarden.NONE);
        readSome(y, 16);
        Play.type(y, "x");
        check.is("the 49th again", y.transmit(0), 19);
    }

    private static void stopOnce(Check check) {
        check.sentence("STOP is to be sent, once");
        PortWarden x = sending();
        Play.type(x, 'x', 64);
        check.is("one", Play.sent(x), "\023");
        readSome(x, 40);
        Play.type(x, 'x', 40);
        check.is("no other while START is not due", Play.sent(x), "");
        readSome(x, 48);
        check.is("START", Play.sent(x), "\021");
        Play.type(x, 'x', 33);
        check.is("STOP for the next 49th", Play.sent(x), "\023");
        check.is("all are counted as transmitted", x.count(0, 4), 3);
    }

    private static void sixteenOrLess(Check check) {
        check.sentence("when it then has 16 or less, START");
        PortWarden x = sending();
        Play.type(x, 'x', 49);
        x.transmit(0);
        readSome(x, 32);
        check.is("17", x.transmit(0), PortWarden.NONE);
        x.read(0, 0);
        check.is("16", x.transmit(0), 17);
        PortWarden y = sending();
        Play.type(y, 'x', 16);
        readSome(y, 16);
        check.is("no START without a STOP", y.transmit(0), PortWarden.NONE);
        Play.type(y, 'x', 48);
        readSome(y, 48);
        check.is("nor from 48 down", y.transmit(0), PortWarden.NONE);
    }

    private static void startOnce(Check check) {
        check.sentence("START, once");
        PortWarden x = sending();
        Play.type(x, 'x', 49);
        x.transmit(0);
        readSome(x, 33);
        check.is("one", x.transmit(0), 17);
        x.read(0, 0);
        check.is("not at 15", x.transmit(0), PortWarden.NONE);
        Play.type(x, "xx");
        x.read(0, 0);
        check.is("not at 16 from 17", x.transmit(0), PortWarden.NONE);
        x.flush(0, 0);
        check.is("not when it is emptied", x.transmit(0), PortWarden.NONE);
    }

    private static void startWithoutTheMode(Check check) {
        check.sentence("START, once (also when mode 6 went meanwhile)");
        PortWarden x = sending();
        Play.type(x, 'x', 49);
        x.transmit(0);
        x.mode(0, Play.SENDS, 0, 0);
        check.is("not when it goes", x.transmit(0), PortWarden.NONE);
        readSome(x, 32);
        check.is("17", x.transmit(0), PortWarden.NONE);
        x.read(0, 0);
        check.is("16", x.transmit(0), 17);
        Play.type(x, 'x', 33);
        check.is("but no STOP any more", x.transmit(0), PortWarden.NONE);
    }

    private static void stopThatHasNotGone(Check check) {
        check.sentence("a STOP that has not gone yet is not sent any more");
        PortWarden x = sending();
        Play.type(x, 'x', 49);
        readSome(x, 32);
        check.is("17: it is to go still", x.held(0), 0);
        x.read(0, 0);
        check.is("16: START alone", Play.sent(x), "\021");
        PortWarden y = sending();
        Play.type(y, 'x', 49);
        readSome(y, 32);
        check.is("17: it goes", Play.sent(y), "\023");
        y.read(0, 0);
        check.is("16: START behind it", Play.sent(y), "\021");
    }

    private static void startThatHasNotGone(Check check) {
        check.sentence("(nor a START when STOP is to be sent again)");
        PortWarden x = sending();
        Play.type(x, 'x', 49);
        x.transmit(0);
        readSome(x, 33);
        Play.type(x, 'x', 33);
        check.is("STOP alone", Play.sent(x), "\023");
        readSome(x, 33);
        Play.type(x, 'x', 32);
        check.is("with 48 it goes", Play.sent(x), "\021");
        Play.type(x, "x");
        check.is("and STOP behind it", Play.sent(x), "\023");
    }

    private static void whateverTakesEntries(Check check) {
        check.sentence("when it then has 16 or less: whatever took the others away");
        String[] typed = {"\003", "\034", "\032", "\025", "\027", "\177".repeat(33)};
        for (int i = 0; i < typed.length; i++) {
            PortWarden x = sending();
            x.mode(0, Play.CANON, 1, 0);
            Play.type(x, 'x', 49);
            x.transmit(0);
            Play.type(x, typed[i]);
            check.is("case " + i, x.transmit(0), 17);
        }
        PortWarden x = sending();
        x.mode(0, Play.CANON, 1, 0);
        Play.type(x, "x".repeat(16) + "\004".repeat(33));
        x.transmit(0);
        x.mode(0, Play.CANON, 0, 0);
        check.is("end marks that go", x.transmit(0), 17);
        PortWarden y = sending();
        Play.type(y, 'x', 49);
        y.transmit(0);
        y.flush(0, 1);
        check.is("a flush of the output takes none", y.transmit(0), PortWarden.NONE);
        y.mode(0, Play.TIME, 1, 2);
        check.is("a change that takes the store away", y.transmit(0), 17);
        PortWarden z = sending();
        Play.type(z, 'x', 49);
        z.transmit(0);
        z.carrier(0, false);
        check.is("hanging up keeps the store", z.transmit(0), PortWarden.NONE);
        z.flush(0, 2);
        check.is("a flush of both does not", z.transmit(0), 17);
    }

    private static void aheadOfAllOthers(Check check) {
        check.sentence("These go ahead of all other bytes");
        PortWarden x = sending();
        Play.write(x, "abcdefghij");
        Play.type(x, 'x', 49);
        check.is("STOP", Play.sent(x), "\023abcdefghij");
        Play.write(x, "kl");
        check.is("a byte before START is due", x.transmit(0), 'k');
        readSome(x, 33);
        check.is("START", Play.sent(x), "\021l");
        x.flush(0, 0);
        Play.write(x, "m");
        Play.type(x, "\023");
        x.clear(0, false);
        Play.type(x, 'x', 49);
        check.is("also when all else is held and not clear", x.transmit(0), 19);
        check.is("which keeps the others", x.transmit(0), PortWarden.NONE);
    }

    private static void bytesWhenTheyGo(Check check) {
        check.sentence("they are those of the modes when they go");
        PortWarden x = sending();
        Play.type(x, 'x', 49);
        x.mode(0, Play.STOP, 0, 0);
        check.is("STOP", x.transmit(0), 0);
        readSome(x, 33);
        x.mode(0, Play.START, 255, 0);
        check.is("START", x.transmit(0), 255);
        x.mode(0, Play.START, 17, 0);
        check.is("they went", x.transmit(0), PortWarden.NONE);
    }

    private static void oneThatIsNone(Check check) {
        check.sentence("one that is none (256) is left out");
        PortWarden x = sending();
        x.mode(0, Play.STOP, 256, 0);
        Play.type(x, 'x', 49);
        check.is("nothing is there", x.held(0), 1);
        Play.write(x, "ab");
        check.is("the next byte goes instead", x.transmit(0), 'a');
        x.mode(0, Play.STOP, 19, 0);
        check.is("it was left out for good", x.transmit(0), 'b');
        x.mode(0, Play.START, 256, 0);
        readSome(x, 33);
        check.is("START", x.transmit(0), PortWarden.NONE);
        check.is("neither was counted", x.count(0, 4), 2);
        x.mode(0, Play.START, 17, 0);
        check.is("START was left out, too", x.transmit(0), PortWarden.NONE);
    }

    private static void eachPortForItself(Check check) {
        check.sentence("FLOW: of each port by itself");
        PortWarden x = sending();
        x.mode(1, Play.SENDS, 1, 0);
        Play.type(x, 'x', 49);
        check.is("another port", x.transmit(1), PortWarden.NONE);
        check.is("this one", x.transmit(0), 19);
        x.write(0, 0, 'a');
        x.receive(1, 19, 0);
        x.tick();
        check.is("a STOP at another port", x.held(0), 0);
    }
}
