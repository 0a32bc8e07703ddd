/** Sentences on the receiver, on flags, and on bytes that are stored as they are. */
public final class EdgesOfReceivingTest {
    public static void main(String[] args) {
        Check check = new Check("EdgesOfReceivingTest");
        roomForEight(check);
        overrunIsCounted(check);
        roomGoesRound(check);
        passingTakesAllInOrder(check);
        whatPasses(check);
        breakWithSignals(check);
        breakWithoutSignals(check);
        byteOfTheBreak(check);
        badAlone(check);
        zeroAsItIs(check);
        behindLiteral(check);
        literalIsOver(check);
        literalInAFullStore(check);
        check.finish();
    }

    private static void fill(PortWarden x, int bytes) {
        for (int i = 0; i < bytes; i++) {
            x.receive(0, 'a' + i, 0);
        }
    }

    private static void roomForEight(Check check) {
        check.sentence("A RECEIVER has room for 8 bytes with their flags; one that finds no room is an OVERRUN");
        PortWarden x = Play.raw();
        fill(x, 7);
        check.is("the eighth", x.receive(0, 'h', 3), true);
        check.is("the ninth", x.receive(0, 'i', 0), false);
        check.is("the ninth as a break", x.receive(0, 'i', 2), false);
        check.is("another port's first", x.receive(1, 'i', 0), true);
        x.mode(0, Play.SIGNALS, 0, 0);
        check.is("the first eight are there", Play.read(x), "abcdefg\0");
    }

    private static void overrunIsCounted(Check check) {
        check.sentence("false (also) when it is an overrun, which is counted");
        PortWarden x = Play.raw();
        fill(x, 8);
        check.is("none yet", x.count(0, 1), 0);
        check.is("eight taken", x.count(0, 0), 8);
        x.receive(0, 'i', 0);
        check.is("one", x.count(0, 1), 1);
        x.receive(0, 'i', 1);
        check.is("two", x.count(0, 1), 2);
        check.is("eight taken still", x.count(0, 0), 8);
        check.is("no dropped one", x.count(0, 2), 0);
        x.receive(0, 256, 0);
        x.receive(0, 'i', 4);
        check.is("wrong numbers are no overrun", x.count(0, 1), 2);
    }

    private static void roomGoesRound(Check check) {
        check.sentence("A RECEIVER has room for 8 bytes: round and round");
        PortWarden x = Play.raw();
        for (int i = 0; i < 9; i++) {
            fill(x, 3);
            x.poll(0, 0);
            fill(x, 8);
            check.is("a ninth in round " + i, x.receive(0, 'z', 0), false);
            check.is("round " + i, Play.read(x), "abcabcdefgh");
        }
        check.is("overruns", x.count(0, 1), 9);
    }

    private static void passingTakesAllInOrder(Check check) {
        check.sentence("To PASS a port is to take all out, in order, through the DISCIPLINE");
        PortWarden x = Play.raw();
        check.is("nothing to take out", x.poll(0, 0), 2);
        fill(x, 8);
        check.is("not before it is passed", x.ready(0), 0);
        x.poll(0, 0);
        check.is("all eight", x.ready(0), 8);
        check.is("in order", Play.read(x), "abcdefgh");
        check.is("room for eight again", x.receive(0, 'a', 0), true);
        fill(x, 7);
        check.is("and no more", x.receive(0, 'a', 0), false);
    }

    private static void whatPasses(Check check) {
        check.sentence("The port is passed (by read, by poll, by tick)");
        PortWarden x = Play.raw();
        x.open(0, 1);
        fill(x, 1);
        x.transmit(0);
        x.held(0);
        x.write(0, 0, 'z');
        x.flush(0, 0);
        x.mode(0, Play.TIME, 1, 0);
        x.signals(0);
        x.count(0, 0);
        x.column(0);
        x.read(0, 1);
        x.poll(0, 1);
        check.is("not by other calls, or at another port", x.ready(0), 0);
        x.poll(7, 0);
        check.is("by poll", x.ready(0), 1);
        fill(x, 1);
        x.read(7, 0);
        check.is("by a read that is an ERROR", x.ready(0), 2);
        fill(x, 1);
        x.tick();
        check.is("by tick", x.ready(0), 3);
        fill(x, 1);
        check.is("by read", x.read(0, 0), 'a');
        check.is("behind which one is gone", x.ready(0), 3);
    }

    private static void breakWithSignals(Check check) {
        check.sentence("With flag 2 it is, with mode 2, an INTERRUPT, else a 0");
        for (int flags = 2; flags < 4; flags++) {
            PortWarden x = Play.opened();
            x.foreground(0, 0);
            Play.type(x, "ab\ncd");
            x.receive(0, 'z', flags);
            x.poll(0, 0);
            check.is("signal, flags " + flags, x.signals(0), 1);
            check.is("the store is emptied", x.ready(0), 0);
            check.is("the output's store, too; then its byte is echoed", Play.sent(x), "^C");
            check.is("nothing is dropped", x.count(0, 2), 0);
            Play.type(x, "\n");
            check.is("nothing is stored", Play.read(x), "\n");
        }
        PortWarden x = Play.opened();
        x.foreground(0, 0);
        x.mode(0, Play.BAD, 1, 0);
        x.mode(0, Play.KEEPS, 1, 0);
        Play.type(x, "ab");
        x.receive(0, 'z', 3);
        Play.type(x, "\n");
        check.is("flag 1 is not alone in 3", x.signals(0), 1);
        check.is("with mode 9 all is kept", Play.read(x), "ab\n");
    }

    private static void breakWithoutSignals(Check check) {
        check.sentence("With flag 2 it is, with mode 2, an INTERRUPT, else a 0: else");
        for (int flags = 2; flags < 4; flags++) {
            PortWarden x = Play.opened();
            x.foreground(0, 0);
            x.mode(0, Play.SIGNALS, 0, 0);
            x.receive(0, 3, flags);
            Play.type(x, "\n");
            check.is("no signal, flags " + flags, x.signals(0), 0);
            check.is("a 0, also without mode 11", Play.read(x), "\0\n");
            check.is("echoed", Play.sent(x), "^@\r\n");
        }
    }

    private static void byteOfTheBreak(Check check) {
        check.sentence("an INTERRUPT (its byte that mode's, if that is one)");
        int[] bytes = {0, 255, 'i', 256};
        String[] echoes = {"^@", "\377", "i", ""};
        for (int i = 0; i < bytes.length; i++) {
            PortWarden x = Play.opened();
            x.foreground(0, 0);
            x.mode(0, Play.INTERRUPT, bytes[i], 0);
            Play.type(x, "ab");
            x.receive(0, 3, 2);
            x.poll(0, 0);
            check.is("signal, mode 20 being " + bytes[i], x.signals(0), 1);
            check.is("echo, mode 20 being " + bytes[i], Play.sent(x), echoes[i]);
        }
    }

    private static void badAlone(Check check) {
        check.sentence("with flag 1 (alone) a 0, or it is DROPPED, by mode 11");
        PortWarden x = Play.opened();
        x.foreground(0, 0);
        x.receive(0, 3, 1);
        x.receive(0, 10, 1);
        x.poll(0, 0);
        check.is("dropped, whatever they are", x.count(0, 2), 2);
        check.is("no signal", x.signals(0), 0);
        check.is("not echoed", x.count(0, 3), 0);
        check.is("no line", x.ready(0), 0);
        x.mode(0, Play.BAD, 1, 0);
        x.receive(0, 3, 1);
        x.receive(0, 10, 1);
        Play.type(x, "\n");
        check.is("as 0", Play.read(x), "\0\0\n");
        check.is("echoed", Play.sent(x), "^@^@\r\n");
        check.is("no more are dropped", x.count(0, 2), 2);
    }

    private static void zeroAsItIs(Check check) {
        check.sentence("Such a 0 is STORED at once as it is, and echoed");
        for (int which = Play.ERASE; which <= Play.STOP; which++) {
            PortWarden x = Play.opened();
            x.foreground(0, 0);
            x.mode(0, Play.BAD, 1, 0);
            x.mode(0, which, 0, 0);
            x.receive(0, 'a', 0);
            x.receive(0, 'b', 1);
            x.receive(0, '\n', 0);
            check.is("it is not mode " + which, Play.read(x), "a\0\n");
            check.is("nor a signal", x.signals(0), 0);
            check.is("nor does it hold output", Play.sent(x), "a^@\r\n");
        }
        PortWarden x = Play.opened();
        x.mode(0, Play.BAD, 1, 0);
        x.mode(0, Play.ANY, 1, 0);
        Play.type(x, "\023");
        x.receive(0, 'b', 1);
        x.poll(0, 0);
        check.is("nor does it let held output go", x.held(0), 2);
        Play.type(x, "c");
        check.is("as any other does", x.held(0), 0);
    }

    private static void behindLiteral(Check check) {
        check.sentence("a byte behind LITERAL is STORED at once as it is, and echoed");
        String codes = "\177\027\025\026\022\004\003\034\032\021\023\n\r";
        String forms = "?WUVRDC\\ZQSJM";
        for (int i = 0; i < codes.length(); i++) {
            PortWarden x = Play.opened();
            x.foreground(0, 0);
            Play.type(x, "a\026" + codes.charAt(i));
            check.is("it is an open line's entry: " + (int) codes.charAt(i), x.ready(0), 0);
            check.is("echoed by its form", Play.sent(x), "a^" + forms.charAt(i));
            check.is("no signal", x.signals(0), 0);
            Play.type(x, "\n");
            check.is("stored as it is", Play.read(x), "a" + codes.charAt(i) + "\n");
        }
    }

    private static void literalIsOver(Check check) {
        check.sentence("LITERAL is over then");
        PortWarden x = Play.opened();
        x.foreground(0, 0);
        Play.type(x, "\026");
        x.tick();
        Play.type(x, "\003");
        check.is("the next byte, however late", x.signals(0), 0);
        Play.type(x, "\003");
        check.is("the one behind it is what it was", x.signals(0), 1);
        Play.type(x, "\026");
        x.receive(0, 'a', 1);
        Play.type(x, "\003");
        check.is("a dropped one is not stored", x.signals(0), 0);
        Play.type(x, "\003");
        check.is("so it was over behind the next", x.signals(0), 1);
        x.mode(0, Play.BAD, 1, 0);
        Play.type(x, "\026");
        x.receive(0, 'a', 1);
        Play.type(x, "\003");
        check.is("behind a 0 it is over", x.signals(0), 1);
        Play.type(x, "\026\026\003");
        check.is("LITERAL itself may be the next", x.signals(0), 1);
        Play.type(x, "\026");
        x.receive(0, 'a', 2);
        x.poll(0, 0);
        check.is("a break is an INTERRUPT, and not stored", x.signals(0), 1);
        Play.type(x, "\003");
        check.is("so it was over behind the next, too", x.signals(0), 0);
    }

    private static void literalInAFullStore(Check check) {
        check.sentence("One that finds no room is DROPPED, and not echoed: behind LITERAL");
        PortWarden x = Play.opened();
        x.foreground(0, 0);
        x.mode(0, Play.ECHO, 0, 0);
        Play.type(x, 'a', 64);
        x.mode(0, Play.ECHO, 1, 0);
        Play.type(x, "\026b");
        check.is("dropped", x.count(0, 2), 1);
        check.is("not echoed", x.count(0, 3), 0);
        Play.type(x, "\003");
        check.is("LITERAL is over all the same", x.signals(0), 1);
    }
}
