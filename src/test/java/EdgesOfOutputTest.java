/** Sentences on writing, the column, the output's store, the sender, and what the line takes. */
public final class EdgesOfOutputTest {
    public static void main(String[] args) {
        Check check = new Check("EdgesOfOutputTest");
        outputRoom(check);
        senderRoom(check);
        roomsGoRound(check);
        pushWhileThereIsRoom(check);
        writePushes(check);
        transmitPushesFirst(check);
        transmitPushesBehind(check);
        tickPushes(check);
        echoDoesNotPush(check);
        newlineExpands(check);
        newlineNeedsRoomForBoth(check);
        tabsAreBlanks(check);
        tabNeedsRoomForAll(check);
        othersAreAsTheyAre(check);
        columnOfReturnAndBackspace(check);
        columnOfTabs(check);
        columnOfOthers(check);
        columnStays(check);
        writeAnswersInOrder(check);
        transmitAnswers(check);
        heldReasons(check);
        heldPushesNothing(check);
        clearToSend(check);
        pollSaysTwo(check);
        check.finish();
    }

    private static void outputRoom(Check check) {
        check.sentence("The OUTPUT'S STORE has room for 64 bytes");
        PortWarden x = Play.opened();
        Play.type(x, 'a', 63);
        check.is("63 echoes", x.column(0), 63);
        Play.type(x, "b");
        check.is("the 64th", x.column(0), 64);
        Play.type(x, "\177");
        check.is("no room for three", x.count(0, 3), 64);
        check.is("nor for one that is written", x.write(0, 0, 'c'), PortWarden.WAIT);
        x.tick();
        check.is("8 were pushed: room again", x.write(0, 0, 'd'), 1);
        check.is("in order", Play.sent(x), "a".repeat(63) + "bd");
    }

    private static void senderRoom(Check check) {
        check.sentence("the SENDER for 8");
        PortWarden x = Play.opened();
        check.is("64 and 8 are written", Play.write(x, "w".repeat(72)), 1);
        check.is("the 73rd is not", x.write(0, 0, 'x'), PortWarden.WAIT);
        check.is("nor is it later by itself", x.write(0, 0, 'x'), PortWarden.WAIT);
        x.transmit(0);
        check.is("one went: one more", x.write(0, 0, 'x'), 1);
        check.is("and no other", x.write(0, 0, 'y'), PortWarden.WAIT);
        check.is("in order", Play.sent(x), "w".repeat(71) + "x");
        PortWarden y = Play.opened();
        Play.write(y, "abcdefghi");
        Play.type(y, "\003");
        check.is("8 are in it, which a signal does not take", Play.sent(y), "abcdefgh^C");
    }

    private static void roomsGoRound(Check check) {
        check.sentence("The OUTPUT'S STORE has room for 64 bytes, the SENDER for 8: round and round");
        PortWarden x = Play.opened();
        for (int i = 0; i < 3; i++) {
            Play.write(x, "abcdefghijk");
            check.is("some, round " + i, Play.sent(x), "abcdefghijk");
        }
        String all = "0123456789".repeat(7) + "xy";
        check.is("72 behind 33", Play.write(x, all), 1);
        check.is("the 73rd", x.write(0, 0, 'z'), PortWarden.WAIT);
        check.is("in order", Play.sent(x), all);
        check.is("transmitted", x.count(0, 4), 33 + 72);
    }

    private static void pushWhileThereIsRoom(Check check) {
        check.sentence("To PUSH a port is to move bytes from the one to the other while there is room");
        for (int bytes = 7; bytes < 10; bytes++) {
            PortWarden x = Play.opened();
            Play.type(x, 'a', bytes);
            x.tick();
            Play.type(x, "\003");
            check.is("of " + bytes, Play.sent(x), "a".repeat(Math.min(8, bytes)) + "^C");
        }
        PortWarden x = Play.opened();
        Play.type(x, "abcdef");
        x.tick();
        Play.type(x, "ghij");
        x.tick();
        Play.type(x, "\003");
        check.is("two more behind six", Play.sent(x), "abcdefgh^C");
    }

    private static void writePushes(Check check) {
        check.sentence("A byte is written: 1; ... Then the port is pushed");
        PortWarden x = Play.opened();
        Play.type(x, "ab");
        Play.write(x, "c");
        Play.type(x, "\003");
        check.is("with what stood before it", Play.sent(x), "abc^C");
        PortWarden y = Play.opened();
        Play.type(y, 'a', 7);
        Play.write(y, "bc");
        Play.type(y, "\003");
        check.is("up to eight", Play.sent(y), "aaaaaaab^C");
        PortWarden z = Play.opened();
        Play.type(z, 'a', 64);
        check.is("no room", z.write(0, 0, 'b'), PortWarden.WAIT);
        check.is("one that was not written pushes nothing", z.write(0, 0, 'b'), PortWarden.WAIT);
    }

    private static void transmitPushesFirst(Check check) {
        check.sentence("The port is pushed; then the line takes a byte");
        PortWarden x = Play.opened();
        Play.type(x, "a");
        check.is("from the output's store", x.transmit(0), 'a');
        check.is("that was all", x.transmit(0), PortWarden.NONE);
        PortWarden y = Play.opened();
        y.clear(0, false);
        Play.type(y, "abcdefghi");
        check.is("none goes", y.transmit(0), PortWarden.NONE);
        Play.type(y, "\003");
        y.clear(0, true);
        check.is("but eight were pushed", Play.sent(y), "abcdefgh^C");
    }

    private static void transmitPushesBehind(Check check) {
        check.sentence("Behind that the port is pushed");
        PortWarden x = Play.opened();
        Play.type(x, "abcdefghij");
        check.is("one goes", x.transmit(0), 'a');
        Play.type(x, "\003");
        check.is("the ninth came behind it, the tenth did not", Play.sent(x), "bcdefghi^C");
    }

    private static void tickPushes(Check check) {
        check.sentence("then it is pushed (tick)");
        PortWarden x = Play.opened();
        x.receive(0, 'a', 0);
        x.tick();
        Play.type(x, "\003");
        check.is("what it passed", Play.sent(x), "a^C");
        Play.type(x, "a\003");
        check.is("without it nothing is", Play.sent(x), "^C");
    }

    private static void echoDoesNotPush(Check check) {
        check.sentence("An ECHO goes to the output's store");
        PortWarden x = Play.opened();
        Play.type(x, 'a', 56);
        check.is("8 are free", x.poll(0, 0), 2);
        Play.type(x, "a");
        check.is("7 are free, the sender being empty", x.poll(0, 0), 0);
        x.read(0, 0);
        check.is("reading does not push either", x.poll(0, 0), 0);
    }

    private static void newlineExpands(Check check) {
        check.sentence("with mode 7 a 10 to 13 10");
        PortWarden x = Play.opened();
        Play.write(x, "\t\n\013");
        check.is("with it, its neighbours not", Play.sent(x), "\t\r\n\013");
        x.mode(0, Play.EXPANDS, 0, 0);
        Play.write(x, "\n");
        check.is("without it", Play.sent(x), "\n");
        check.is("no echo", x.count(0, 3), 0);
    }

    private static void newlineNeedsRoomForBoth(Check check) {
        check.sentence("WAIT when the output's store has no room for all it expands to: 10");
        PortWarden x = Play.opened();
        Play.write(x, "w".repeat(8 + 62));
        check.is("room for two", x.write(0, 0, '\n'), 1);
        check.is("all", Play.sent(x), "w".repeat(70) + "\r\n");
        PortWarden y = Play.opened();
        Play.write(y, "w".repeat(8 + 63));
        check.is("room for one", y.write(0, 0, '\n'), PortWarden.WAIT);
        check.is("nothing of it", y.column(0), 71);
        y.mode(0, Play.EXPANDS, 0, 0);
        check.is("as it is it has room", y.write(0, 0, '\n'), 1);
        check.is("all, then", Play.sent(y), "w".repeat(71) + "\n");
    }

    private static void tabsAreBlanks(Check check) {
        check.sentence("with mode 8 a 9 to blanks up to the next column that is a multiple of 8, at least one");
        int[] columns = {0, 1, 6, 7, 8, 9, 15, 16};
        int[] blanks = {8, 7, 2, 1, 8, 7, 1, 8};
        for (int i = 0; i < columns.length; i++) {
            PortWarden x = Play.opened();
            Play.write(x, "w".repeat(columns[i]));
            Play.sent(x);
            x.write(0, 0, '\t');
            check.is("without it, in column " + columns[i], Play.sent(x), "\t");
            PortWarden y = Play.opened();
            y.mode(0, Play.TABS, 1, 0);
            Play.write(y, "w".repeat(columns[i]));
            Play.sent(y);
            y.write(0, 0, '\t');
            check.is("with it, in column " + columns[i], Play.sent(y), " ".repeat(blanks[i]));
            check.is("both end in the same column", y.column(0), x.column(0));
        }
    }

    private static void tabNeedsRoomForAll(Check check) {
        check.sentence("WAIT when the output's store has no room for all it expands to: 9");
        PortWarden x = Play.opened();
        x.mode(0, Play.TABS, 1, 0);
        Play.write(x, "w".repeat(8 + 56));
        check.is("room for 8 blanks", x.write(0, 0, '\t'), 1);
        check.is("and no more", x.write(0, 0, 'w'), PortWarden.WAIT);
        PortWarden y = Play.opened();
        y.mode(0, Play.TABS, 1, 0);
        Play.write(y, "\b" + "w".repeat(8 + 56));
        check.is("room for 7", y.write(0, 0, '\t'), PortWarden.WAIT);
        check.is("nothing of it", y.column(0), 64);
        check.is("room for 7 others", Play.write(y, "1234567"), 1);
        check.is("and no more of them", y.write(0, 0, '8'), PortWarden.WAIT);
    }

    private static void othersAreAsTheyAre(Check check) {
        check.sentence("others are as they are");
        PortWarden x = Play.opened();
        x.mode(0, Play.TABS, 1, 0);
        for (int b = 0; b < 256; b += b < 16 ? 1 : 15) {
            if (b != 9 && b != 10) {
                x.write(0, 0, b);
                check.is("byte " + b, Play.sent(x), String.valueOf((char) b));
            }
        }
        x.write(0, 0, 127);
        check.is("byte 127", Play.sent(x), "\177");
    }

    private static void columnIs(Check check, String before, int b, int due) {
        PortWarden x = Play.opened();
        Play.write(x, before);
        x.write(0, 0, b);
        check.is(b + " in column " + before.length(), x.column(0), due);
    }

    private static void columnOfReturnAndBackspace(Check check) {
        check.sentence("13: 0; 8: one less, at least 0");
        columnIs(check, "", 13, 0);
        columnIs(check, "abc", 13, 0);
        columnIs(check, "", 8, 0);
        columnIs(check, "a", 8, 0);
        columnIs(check, "ab", 8, 1);
    }

    private static void columnOfTabs(Check check) {
        check.sentence("9: the next multiple of 8");
        columnIs(check, "", 9, 8);
        columnIs(check, "a", 9, 8);
        columnIs(check, "abcdefg", 9, 8);
        columnIs(check, "abcdefgh", 9, 16);
        columnIs(check, "abcdefghi", 9, 16);
    }

    private static void columnOfOthers(Check check) {
        check.sentence("32 and above but 127: one more; others nothing");
        int[] same = {0, 7, 11, 12, 14, 31, 127};
        for (int b : same) {
            columnIs(check, "ab", b, 2);
        }
        int[] more = {32, 33, 126, 128, 255};
        for (int b : more) {
            columnIs(check, "ab", b, 3);
        }
        PortWarden x = Play.opened();
        x.mode(0, Play.EXPANDS, 0, 0);
        Play.write(x, "ab\n");
        check.is("a 10 by itself", x.column(0), 2);
        Play.type(x, "\n");
        check.is("a 13 10 that is echoed", x.column(0), 0);
    }

    private static void columnStays(Check check) {
        check.sentence("The COLUMN (0 at first) counts by what goes to the output's store");
        PortWarden x = Play.opened();
        check.is("at first", x.column(0), 0);
        Play.write(x, "abc");
        check.is("written", x.column(0), 3);
        Play.type(x, "\001");
        check.is("echoed", x.column(0), 5);
        check.is("what is sent changes nothing", Play.sent(x).length() + x.column(0), 10);
        Play.write(x, "d");
        x.flush(0, 2);
        check.is("nor does what is taken away", x.column(0), 6);
        Play.type(x, "\003");
        check.is("a signal's echo counts", x.column(0), 8);
        x.carrier(0, false);
        check.is("nor does hanging up", x.column(0), 8);
        check.is("nor what is not written", x.write(0, 0, 'a') + x.column(0), PortWarden.ERROR + 8);
        check.is("another port's is its own", x.column(1), 0);
    }

    private static void writeAnswersInOrder(Check check) {
        check.sentence("ERROR when the process hasn't the port open, or it is hung up; STOPPED; WAIT; 1");
        PortWarden x = Play.opened();
        x.open(1, 0);
        x.mode(0, Play.STOPS, 1, 0);
        Play.write(x, "w".repeat(72));
        check.is("no room", x.write(1, 0, 'a'), PortWarden.WAIT);
        x.foreground(0, 0);
        check.is("not of the foreground, no room", x.write(1, 0, 'a'), PortWarden.STOPPED);
        check.is("not open, not of the foreground, no room", x.write(2, 0, 'a'), PortWarden.ERROR);
        check.is("of the foreground, no room", x.write(0, 0, 'a'), PortWarden.WAIT);
        check.is("the signal", x.signals(1), 32);
        x.transmit(0);
        check.is("room", x.write(0, 0, 'a'), 1);
        x.carrier(0, false);
        check.is("hung up", x.write(0, 0, 'a'), PortWarden.ERROR);
        check.is("hung up, not of the foreground", x.write(1, 0, 'a'), PortWarden.ERROR);
        check.is("without a signal", x.signals(1), 0);
        check.is("nothing is there", x.held(0), 1);
    }

    private static void transmitAnswers(Check check) {
        check.sentence("if output is not held and it is clear to send, the sender's first one; NONE");
        PortWarden x = Play.opened();
        check.is("nothing there", x.transmit(0), PortWarden.NONE);
        Play.write(x, "abcd");
        Play.type(x, "\023");
        check.is("held", x.transmit(0), PortWarden.NONE);
        x.clear(0, false);
        check.is("held and not clear", x.transmit(0), PortWarden.NONE);
        Play.type(x, "\021");
        check.is("not clear", x.transmit(0), PortWarden.NONE);
        x.clear(0, true);
        check.is("neither", x.transmit(0), 'a');
        check.is("only what went is counted", x.count(0, 4), 1);
        check.is("the rest", Play.sent(x), "bcd");
    }

    private static void heldReasons(Check check) {
        check.sentence("0 it wouldn't; 1 nothing is there, 2 output is held, 3 not clear to send; NONE");
        for (int state = 0; state < 8; state++) {
            boolean there = (state & 1) != 0;
            boolean held = (state & 2) != 0;
            boolean clear = (state & 4) != 0;
            PortWarden x = Play.opened();
            if (there) {
                x.write(0, 0, 'a');
            }
            if (held) {
                Play.type(x, "\023");
            }
            x.clear(0, clear);
            int due = !there ? 1 : held ? 2 : clear ? 0 : 3;
            check.is("state " + state, x.held(0), due);
            check.is("and the next transmit in state " + state, x.transmit(0) == PortWarden.NONE, due != 0);
        }
    }

    private static void heldPushesNothing(Check check) {
        check.sentence("Why the next transmit would answer NONE (all bytes pushed)");
        PortWarden x = Play.opened();
        Play.type(x, "a");
        check.is("a byte that is not pushed yet counts", x.held(0), 0);
        check.is("as it does when it is", x.transmit(0), 'a');
        Play.type(x, "b");
        x.held(0);
        Play.type(x, "\003");
        check.is("asking changes nothing", Play.sent(x), "^C");
    }

    private static void clearToSend(Check check) {
        check.sentence("Clear to send, or not");
        PortWarden x = Play.opened();
        x.write(0, 0, 'a');
        check.is("not", x.clear(0, false), true);
        check.is("not again", x.clear(0, false), true);
        check.is("nothing goes", x.transmit(0), PortWarden.NONE);
        check.is("writing goes on", x.write(0, 0, 'b'), 1);
        check.is("clear", x.clear(0, true), true);
        check.is("clear again", x.clear(0, true), true);
        check.is("all goes", Play.sent(x), "ab");
    }

    private static void pollSaysTwo(Check check) {
        check.sentence("2 if 8 bytes of the output's store are free");
        PortWarden x = Play.opened();
        check.is("64 are free", x.poll(0, 0), 2);
        Play.write(x, "w".repeat(8 + 56));
        check.is("8 are free", x.poll(0, 0), 2);
        x.write(0, 0, 'w');
        check.is("7 are free", x.poll(0, 0), 0);
        Play.write(x, "w".repeat(7));
        check.is("none is free", x.poll(0, 0), 0);
        for (int i = 0; i < 7; i++) {
            x.transmit(0);
        }
        check.is("7 are free again", x.poll(0, 0), 0);
        x.transmit(0);
        check.is("8 are free again", x.poll(0, 0), 2);
        x.flush(0, 1);
        check.is("all are free", x.poll(0, 0), 2);
    }
}
