/** Sentences on the store: its room, what is released, what a reader gets, and what time does. */
public final class EdgesOfStoreTest {
    public static void main(String[] args) {
        Check check = new Check("EdgesOfStoreTest");
        roomForSixtyFour(check);
        newlineAsSixtyFifth(check);
        endMarkAsSixtyFifth(check);
        literalNewlineAsSixtyFifth(check);
        noSixtyFifthWithoutModeZero(check);
        roomGoesRound(check);
        releasedBehindANewline(check);
        releasedBehindAnEndMark(check);
        releasedByLeast(check);
        leastOfZero(check);
        leastIsOfAllThatAreThere(check);
        leastThatIsLowered(check);
        modeZeroSetToZero(check);
        modeZeroSetToOne(check);
        readingInOrder(check);
        endWhenHungUp(check);
        pollSaysOne(check);
        readyIsHowMany(check);
        timeTicks(check);
        timeSinceTheLastEntry(check);
        timeOfZero(check);
        timeWithModeZero(check);
        eachPortInTurn(check);
        check.finish();
    }

    /** A new object without echo, in mode 0. */
    private static PortWarden quiet() {
        PortWarden x = Play.opened();
        x.mode(0, Play.ECHO, 0, 0);
        return x;
    }

    private static void ticks(PortWarden x, int times) {
        for (int i = 0; i < times; i++) {
            x.tick();
        }
    }

    private static void roomForSixtyFour(Check check) {
        check.sentence("The STORE has room for 64 entries. One that finds no room is DROPPED, and not echoed");
        PortWarden x = quiet();
        Play.type(x, 'a', 63);
        x.mode(0, Play.ECHO, 1, 0);
        Play.type(x, "b");
        check.is("the 64th is stored", x.count(0, 2), 0);
        check.is("and echoed", Play.sent(x), "b");
        Play.type(x, "c");
        check.is("the 65th is dropped", x.count(0, 2), 1);
        check.is("and not echoed", Play.sent(x), "");
        check.is("nor is the column changed", x.column(0), 1);
        Play.type(x, "\177d");
        check.is("room for one again", x.count(0, 2), 1);
        Play.type(x, "\n");
        check.is("all that was stored", Play.read(x), "a".repeat(63) + "d\n");

        PortWarden y = Play.raw();
        y.mode(0, Play.BAD, 1, 0);
        Play.type(y, 'a', 64);
        y.receive(0, 'b', 1);
        y.poll(0, 0);
        check.is("without mode 0, and for a 0 as it is", y.count(0, 2), 1);
        check.is("64 are there", y.ready(0), 64);
    }

    private static void newlineAsSixtyFifth(Check check) {
        check.sentence("but in mode 0 a 10 is stored as a 65th");
        PortWarden x = quiet();
        Play.type(x, 'a', 64);
        x.mode(0, Play.ECHO, 1, 0);
        Play.type(x, "\n");
        check.is("stored and released", x.ready(0), 65);
        check.is("echoed", Play.sent(x), "\r\n");
        check.is("not dropped", x.count(0, 2), 0);
        Play.type(x, "\n");
        check.is("there is no 66th", x.count(0, 2), 1);
        check.is("which is not echoed", Play.sent(x), "");
        x.read(0, 0);
        Play.type(x, "b");
        check.is("with 64 no other byte is a 65th", x.count(0, 2), 2);
        Play.type(x, "\r");
        check.is("but a return that becomes a 10", x.ready(0), 65);
        check.is("in order", Play.read(x), "a".repeat(63) + "\n\n");
    }

    private static void endMarkAsSixtyFifth(Check check) {
        check.sentence("but in mode 0 an end mark is stored as a 65th");
        PortWarden x = quiet();
        Play.type(x, 'a', 64);
        Play.type(x, "\004");
        check.is("stored and released", x.ready(0), 65);
        check.is("not dropped", x.count(0, 2), 0);
        Play.type(x, "\004");
        check.is("there is no 66th", x.count(0, 2), 1);
        Play.type(x, "\n");
        check.is("nor a 10", x.count(0, 2), 2);
        check.is("in order", Play.read(x), "a".repeat(64) + "$");
    }

    private static void literalNewlineAsSixtyFifth(Check check) {
        check.sentence("but in mode 0 a 10 is stored as a 65th: as it is");
        PortWarden x = quiet();
        Play.type(x, 'a', 64);
        Play.type(x, "\026\n");
        check.is("stored", x.count(0, 2), 0);
        check.is("but it ends no line", x.ready(0), 0);
        Play.type(x, "\n");
        check.is("and leaves no room for one that would", x.count(0, 2), 1);
        Play.type(x, "\177\n");
        check.is("until it is taken away", x.ready(0), 65);
    }

    private static void noSixtyFifthWithoutModeZero(Check check) {
        check.sentence("in mode 0 a 10 or an end mark is stored as a 65th: not without it");
        PortWarden x = Play.raw();
        Play.type(x, 'a', 63);
        Play.type(x, "\n");
        check.is("the 64th", x.ready(0), 64);
        Play.type(x, "\n\004\r");
        check.is("no 65th", x.ready(0), 64);
        check.is("they are dropped", x.count(0, 2), 3);
        PortWarden y = quiet();
        Play.type(y, 'a', 64);
        Play.type(y, "\n");
        y.mode(0, Play.CANON, 0, 0);
        check.is("a 65th that is there stays", y.ready(0), 65);
        y.read(0, 0);
        Play.type(y, "b");
        check.is("but none comes any more", y.count(0, 2), 1);
        y.read(0, 0);
        Play.type(y, "b");
        check.is("with 63 there is room", y.ready(0), 64);
    }

    private static void roomGoesRound(Check check) {
        check.sentence("The STORE has room for 64 entries: round and round");
        PortWarden x = Play.raw();
        for (int i = 0; i < 3; i++) {
            Play.type(x, "abcdefghijklmnopqrs");
            check.is("some, round " + i, Play.read(x), "abcdefghijklmnopqrs");
        }
        Play.type(x, "0123456789".repeat(6) + "abcd");
        check.is("64 behind 57", x.ready(0), 64);
        check.is("none dropped", x.count(0, 2), 0);
        Play.type(x, "e");
        check.is("one dropped", x.count(0, 2), 1);
        check.is("in order", Play.read(x), "0123456789".repeat(6) + "abcd");
    }

    private static void releasedBehindANewline(Check check) {
        check.sentence("RELEASED are the first entries: behind a 10 (not as it is) that came in mode 0");
        PortWarden x = quiet();
        Play.type(x, "ab");
        check.is("not before it", x.ready(0), 0);
        Play.type(x, "\026\n");
        check.is("not behind one as it is", x.ready(0), 0);
        Play.type(x, "\n");
        check.is("up to it, with it", x.ready(0), 4);
        Play.type(x, "c");
        check.is("not what comes behind", x.ready(0), 4);
        Play.type(x, "\n\n");
        check.is("each line", x.ready(0), 7);
        PortWarden y = Play.raw();
        y.mode(0, Play.LEAST, 5, 0);
        Play.type(y, "ab\n");
        check.is("not behind one that came without mode 0", y.ready(0), 0);
        y.mode(0, Play.CANON, 1, 0);
        check.is("also when mode 0 comes back", y.ready(0), 0);
        Play.type(y, "\n");
        check.is("but behind one that came then", y.ready(0), 4);
    }

    private static void releasedBehindAnEndMark(Check check) {
        check.sentence("RELEASED are the first entries: behind an end mark that came in mode 0");
        PortWarden x = quiet();
        Play.type(x, "ab");
        check.is("not before it", x.ready(0), 0);
        Play.type(x, "\026\004");
        check.is("not behind its byte as it is", x.ready(0), 0);
        Play.type(x, "\004");
        check.is("up to it, with it", x.ready(0), 4);
        Play.type(x, "c");
        check.is("not what comes behind", x.ready(0), 4);
        PortWarden y = Play.raw();
        y.mode(0, Play.LEAST, 5, 0);
        Play.type(y, "ab\004");
        check.is("without mode 0 there is none", y.ready(0), 0);
    }

    private static void releasedByLeast(Check check) {
        check.sentence("without mode 0 as soon as there are at least LEAST entries, all that are there");
        for (int least : new int[] {1, 2, 3, 8, 31, 32}) {
            PortWarden x = Play.raw();
            x.mode(0, Play.LEAST, least, 0);
            Play.type(x, 'a', least - 1);
            check.is("one less than " + least, x.ready(0), 0);
            check.is("reading waits", x.read(0, 0), PortWarden.WAIT);
            Play.type(x, "b");
            check.is("all " + least, x.ready(0), least);
            Play.type(x, "c");
            check.is("and one more", x.ready(0), least + 1);
        }
    }

    private static void leastOfZero(Check check) {
        check.sentence("at least LEAST entries (1 if it is 0)");
        PortWarden x = Play.raw();
        x.mode(0, Play.LEAST, 0, 0);
        check.is("none is there: reading waits", x.read(0, 0), PortWarden.WAIT);
        check.is("none is released", x.ready(0), 0);
        Play.type(x, "a");
        check.is("one is there", x.ready(0), 1);
        check.is("it is read", x.read(0, 0), 'a');
        check.is("none again", x.read(0, 0), PortWarden.WAIT);
    }

    private static void leastIsOfAllThatAreThere(Check check) {
        check.sentence("at least LEAST entries: released ones are there, too");
        PortWarden x = Play.raw();
        x.mode(0, Play.LEAST, 4, 0);
        Play.type(x, "abcd");
        x.read(0, 0);
        x.read(0, 0);
        Play.type(x, "e");
        check.is("two and one more are too few", x.ready(0), 2);
        Play.type(x, "f");
        check.is("two and two are enough", x.ready(0), 4);
        check.is("in order", Play.read(x), "cdef");
    }

    private static void leastThatIsLowered(Check check) {
        check.sentence("as soon as there are at least LEAST entries: when LEAST is lowered");
        PortWarden x = Play.raw();
        x.mode(0, Play.LEAST, 9, 0);
        Play.type(x, "abc");
        x.mode(0, Play.LEAST, 4, 0);
        check.is("three are fewer than 4", x.ready(0), 0);
        x.mode(0, Play.LEAST, 3, 0);
        check.is("but not than 3", x.ready(0), 3);
        x.mode(0, Play.LEAST, 9, 0);
        check.is("what is released stays so", x.ready(0), 3);
        PortWarden y = quiet();
        Play.type(y, "abc");
        y.mode(0, Play.LEAST, 2, 0);
        check.is("in mode 0 LEAST releases nothing", y.ready(0), 0);
    }

    private static void modeZeroSetToZero(Check check) {
        check.sentence("Whenever mode 0 is set to 0, end marks go from the store, and all is released");
        PortWarden x = quiet();
        Play.type(x, "\004a\004\004b\nc\004d");
        check.is("before", x.ready(0), 8);
        x.mode(0, Play.LEAST, 32, 0);
        x.mode(0, Play.CANON, 0, 0);
        check.is("four marks less, one more released", x.ready(0), 5);
        check.is("in order", Play.read(x), "ab\ncd");
        Play.type(x, "efg");
        check.is("too few for LEAST", x.ready(0), 0);
        x.mode(0, Play.CANON, 0, 0);
        check.is("set to 0 when it was 0", x.ready(0), 3);
        x.flush(0, 0);
        x.mode(0, Play.CANON, 0, 0);
        check.is("an empty store", x.ready(0), 0);
        PortWarden y = quiet();
        Play.type(y, "\004".repeat(65));
        check.is("65 marks", y.ready(0), 65);
        y.mode(0, Play.CANON, 0, 0);
        check.is("none of them", y.ready(0), 0);
        Play.type(y, 'a', 64);
        check.is("room for 64", y.count(0, 2), 0);
    }

    private static void modeZeroSetToOne(Check check) {
        check.sentence("Whenever mode 0 is set to 0, ... all is released: not when it is set to 1");
        PortWarden x = quiet();
        Play.type(x, "a\004b");
        x.mode(0, Play.CANON, 1, 0);
        check.is("nothing more is released", x.ready(0), 2);
        check.is("the mark is there", Play.read(x), "a$");
        x.mode(0, Play.CANON, 2, 0);
        check.is("nor when it is refused", x.ready(0), 0);
        x.write(0, 0, 'w');
        x.mode(0, Play.CANON, 0, 1);
        check.is("nor before it is made", x.ready(0), 0);
        x.transmit(0);
        check.is("but then", x.ready(0), 1);
    }

    private static void readingInOrder(Check check) {
        check.sentence("the first entry, if one is released (END for an end mark, which is taken away, too); WAIT");
        PortWarden x = quiet();
        check.is("none", x.read(0, 0), PortWarden.WAIT);
        Play.type(x, "a\004b");
        check.is("the first", x.read(0, 0), 'a');
        check.is("the mark", x.read(0, 0), PortWarden.END);
        check.is("it was taken away; 'b' is not released", x.read(0, 0), PortWarden.WAIT);
        Play.type(x, "\026\0\026\377\n");
        check.is("'b'", x.read(0, 0), 'b');
        check.is("a 0 is an entry", x.read(0, 0), 0);
        check.is("a 255 is one", x.read(0, 0), 255);
        check.is("the newline", x.read(0, 0), 10);
        check.is("none again", x.read(0, 0), PortWarden.WAIT);
    }

    private static void endWhenHungUp(Check check) {
        check.sentence("END when it is hung up; WAIT");
        PortWarden x = quiet();
        Play.type(x, "a\004b");
        x.carrier(0, false);
        check.is("released ones come first", x.read(0, 0), 'a');
        check.is("and their marks", x.read(0, 0), PortWarden.END);
        check.is("then END, though 'b' is there", x.read(0, 0), PortWarden.END);
        x.receive(0, '\n', 0);
        check.is("what comes is read still", x.read(0, 0), 'b');
        check.is("all of it", x.read(0, 0), 10);
        check.is("END", x.read(0, 0), PortWarden.END);
        x.carrier(0, true);
        check.is("END while nobody opened it", x.read(0, 0), PortWarden.END);
        x.open(0, 0);
        check.is("WAIT", x.read(0, 0), PortWarden.WAIT);
    }

    private static void pollSaysOne(Check check) {
        check.sentence("1 if reading wouldn't say WAIT");
        PortWarden x = quiet();
        x.open(1, 0);
        check.is("nothing there", x.poll(0, 0), 2);
        Play.type(x, "a");
        check.is("an open line", x.poll(0, 0), 2);
        Play.type(x, "\n");
        check.is("a byte", x.poll(0, 0), 3);
        x.read(0, 0);
        check.is("the last one", x.poll(0, 0), 3);
        x.read(0, 0);
        check.is("none", x.poll(0, 0), 2);
        Play.type(x, "\004");
        check.is("END for a mark", x.poll(0, 0), 3);
        x.read(0, 0);
        check.is("ERROR", x.poll(2, 0), 3);
        x.foreground(0, 0);
        check.is("STOPPED", x.poll(1, 0), 3);
        check.is("of the foreground group", x.poll(0, 0), 2);
        check.is("no signal was raised", x.signals(1), 0);
        x.carrier(0, false);
        check.is("END for one that is hung up", x.poll(0, 0), 7);
    }

    private static void readyIsHowMany(Check check) {
        check.sentence("How many entries are released");
        PortWarden x = quiet();
        check.is("none", x.ready(0), 0);
        x.receive(0, '\n', 0);
        check.is("the receiver's are not", x.ready(0), 0);
        x.tick();
        check.is("one", x.ready(0), 1);
        Play.type(x, "ab\004c");
        check.is("with the mark, without the open line", x.ready(0), 4);
        x.read(1, 0);
        check.is("an ERROR takes none", x.ready(0), 4);
        x.read(0, 0);
        check.is("a read takes one", x.ready(0), 3);
        x.flush(0, 1);
        check.is("a flush of the output takes none", x.ready(0), 3);
        x.flush(0, 0);
        check.is("one of the store takes all", x.ready(0), 0);
    }

    private static PortWarden timed(int time) {
        PortWarden x = Play.raw();
        x.mode(0, Play.LEAST, 32, 0);
        x.mode(0, Play.TIME, time, 0);
        return x;
    }

    private static void timeTicks(Check check) {
        check.sentence("if TIME ticks (this one counted) have gone since the store got its last entry");
        for (int time : new int[] {1, 2, 3, 19, 20}) {
            PortWarden x = timed(time);
            Play.type(x, "ab");
            ticks(x, time - 1);
            check.is("one tick less than " + time, x.ready(0), 0);
            x.tick();
            check.is(time + " ticks", x.ready(0), 2);
            PortWarden y = timed(time);
            y.receive(0, 'a', 0);
            ticks(y, time - 1);
            check.is("one less, counted from the tick that passed it", y.ready(0), 0);
            y.tick();
            check.is("that tick is counted", y.ready(0), 1);
        }
    }

    private static void timeSinceTheLastEntry(Check check) {
        check.sentence("since the store got its last entry, all entries are released");
        PortWarden x = timed(3);
        Play.type(x, "a");
        ticks(x, 2);
        Play.type(x, "b");
        ticks(x, 2);
        check.is("two since the last", x.ready(0), 0);
        x.tick();
        check.is("three: both", x.ready(0), 2);
        Play.type(x, "c");
        check.is("a new one is not", x.ready(0), 2);
        ticks(x, 2);
        check.is("after two", x.ready(0), 2);
        x.tick();
        check.is("after three", x.ready(0), 3);
        x.flush(0, 0);
        ticks(x, 4);
        check.is("none is there", x.ready(0), 0);
        Play.type(x, "d");
        ticks(x, 2);
        x.receive(0, 'e', 1);
        x.tick();
        check.is("a dropped one is no entry", x.ready(0), 1);

        PortWarden y = timed(2);
        Play.type(y, 'a', 20);
        y.tick();
        Play.type(y, "\023\021\003b");
        y.tick();
        check.is("what is not stored is none, 'b' is one", y.ready(0), 0);
        y.tick();
        check.is("two ticks since 'b'", y.ready(0), 1);
    }

    private static void timeOfZero(Check check) {
        check.sentence("with TIME above 0");
        PortWarden x = timed(0);
        Play.type(x, "a");
        ticks(x, 25);
        check.is("with TIME 0 nothing", x.ready(0), 0);
        x.mode(0, Play.TIME, 20, 0);
        check.is("setting it releases nothing", x.ready(0), 0);
        x.tick();
        check.is("20 ticks and more have gone", x.ready(0), 1);
    }

    private static void timeWithModeZero(Check check) {
        check.sentence("without mode 0");
        PortWarden x = timed(1);
        x.mode(0, Play.CANON, 1, 0);
        Play.type(x, "a");
        ticks(x, 3);
        check.is("with it nothing", x.ready(0), 0);
        Play.type(x, "\177b");
        x.mode(0, Play.CANON, 0, 0);
        check.is("set to 0", Play.read(x), "b");
        Play.type(x, "c");
        x.tick();
        check.is("without it", Play.read(x), "c");
    }

    private static void eachPortInTurn(Check check) {
        check.sentence("Time: each port in turn is passed");
        PortWarden x = new PortWarden();
        for (int port = 0; port < 4; port++) {
            x.mode(port, Play.CANON, 0, 0);
            x.mode(port, Play.LEAST, 9, 0);
            x.mode(port, Play.TIME, port, 0);
            x.receive(port, 'a', 0);
        }
        for (int times = 1; times < 5; times++) {
            x.tick();
            for (int port = 0; port < 4; port++) {
                check.is("port " + port + " after " + times, x.ready(port), port > 0 && times >= port ? 1 : 0);
            }
        }
    }
}
