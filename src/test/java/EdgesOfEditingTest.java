/** Sentences on what the discipline makes of a byte in mode 0 and without it, and on forms and echoes. */
public final class EdgesOfEditingTest {
    private static final String RUB = Play.RUB;

    public static void main(String[] args) {
        Check check = new Check("EdgesOfEditingTest");
        eraseTakesTheLast(check);
        wordTakesBlanksFirst(check);
        killTakesAll(check);
        openLineIsNotReleased(check);
        eachIsAnEchoOfItsOwn(check);
        eightBlankEightForEachByte(check);
        literalEchoesNothing(check);
        reprintEchoesTheOpenLine(check);
        reprintNeedsRoomForAll(check);
        endStoresAMark(check);
        newlineEndsTheLine(check);
        returnBecomesNewline(check);
        inModeZeroOnly(check);
        firstOfThese(check);
        oneThatIsNone(check);
        forms(check);
        echoNeedsRoomForAll(check);
        echoIsCounted(check);
        check.finish();
    }

    private static String readLine(PortWarden x) {
        Play.type(x, "\n");
        return Play.read(x);
    }

    private static void eraseTakesTheLast(Check check) {
        check.sentence("ERASE takes the open line's last entry away");
        PortWarden x = Play.opened();
        Play.type(x, "\177");
        check.is("none is there", x.count(0, 3), 0);
        check.is("it is not stored itself", readLine(x), "\n");
        Play.type(x, "a\177");
        check.is("the only one", readLine(x), "\n");
        Play.type(x, "ab\177");
        check.is("the last of two", readLine(x), "a\n");
        Play.type(x, "ab\177\177\177c");
        check.is("once more than there are", readLine(x), "c\n");
    }

    private static void wordTakesBlanksFirst(Check check) {
        check.sentence("WORD first its blanks (32, 9), then what is no blank");
        String[] typed = {"", "a", "ab", " ", " \t ", "a ", "a b", "a b ", "a\tb\t", "a\037", "a!b", "a  bc \t"};
        String[] left = {"", "", "", "", "", "", "a ", "a ", "a\t", "", "", "a  "};
        for (int i = 0; i < typed.length; i++) {
            PortWarden x = Play.opened();
            Play.type(x, typed[i] + "\027");
            check.is("of case " + i, readLine(x), left[i] + "\n");
        }
        PortWarden x = Play.opened();
        Play.type(x, "a b\027\027");
        check.is("twice", readLine(x), "\n");
    }

    private static void killTakesAll(Check check) {
        check.sentence("KILL all of it");
        PortWarden x = Play.opened();
        Play.type(x, "\025");
        check.is("of nothing", x.count(0, 3), 0);
        Play.type(x, "a\025");
        check.is("of one", readLine(x), "\n");
        Play.type(x, "a b\tc\025");
        check.is("of more than a word", readLine(x), "\n");
        x.mode(0, Play.ECHO, 0, 0);
        Play.type(x, 'a', 64);
        Play.type(x, "\025b");
        check.is("of a full store", readLine(x), "b\n");
        check.is("in which there was no room for one more", x.count(0, 2), 0);
    }

    private static void openLineIsNotReleased(Check check) {
        check.sentence("In mode 0 the OPEN LINE is what is not released");
        String[] takers = {"\177", "\027", "\025"};
        for (String taker : takers) {
            PortWarden x = Play.opened();
            Play.type(x, "ab\n" + taker);
            check.is("nothing behind a newline", x.ready(0), 3);
            Play.type(x, "cd\004" + taker);
            check.is("nothing behind an end mark", x.ready(0), 6);
            Play.type(x, "e" + taker + taker);
            check.is("one entry and no more", readLine(x), "ab\ncd$\n");
            Play.type(x, "f\026\n" + taker + taker);
            check.is("a newline as it is belongs to it", readLine(x), "\n");
        }
        PortWarden x = Play.raw();
        x.mode(0, Play.LEAST, 3, 0);
        Play.type(x, "ab");
        x.mode(0, Play.CANON, 1, 0);
        Play.type(x, "\177c");
        check.is("what came without mode 0 and is not released", readLine(x), "ac\n");
        x.mode(0, Play.CANON, 0, 0);
        Play.type(x, "abc");
        x.mode(0, Play.CANON, 1, 0);
        Play.type(x, "\177\025\027d");
        check.is("what came without mode 0 and is", readLine(x), "abcd\n");
        x.mode(0, Play.CANON, 0, 0);
        Play.type(x, "  ef ");
        x.mode(0, Play.CANON, 1, 0);
        Play.type(x, "\027 \027");
        check.is("nor do WORD's blanks reach into it", readLine(x), "  ef \n");
    }

    private static void eachIsAnEchoOfItsOwn(Check check) {
        check.sentence("each entry that is taken away is an echo of its own");
        PortWarden x = Play.opened();
        Play.type(x, "abc");
        Play.sent(x);
        Play.write(x, "w".repeat(8 + 58));
        Play.type(x, "\025");
        check.is("two of three have room", x.count(0, 3), 3 + 6);
        check.is("all three are taken away", readLine(x), "\n");

        PortWarden y = Play.opened();
        Play.type(y, "a\001b");
        Play.sent(y);
        Play.write(y, "w".repeat(8 + 57));
        Play.type(y, "\025");
        check.is("3, no room for 6, 3 again", Play.sent(y).substring(65), RUB + RUB);

        PortWarden z = Play.opened();
        Play.type(z, "abc");
        Play.sent(z);
        Play.write(z, "w".repeat(8 + 62));
        Play.type(z, "\177");
        check.is("no room for one: nothing of it", Play.sent(z), "w".repeat(70));
        check.is("but it is taken away", readLine(z), "ab\n");
    }

    private static void eightBlankEightForEachByte(Check check) {
        check.sentence("8 32 8 for each byte of its form");
        int[] bytes = {0, 31, 32, 126, 127, 128, 255, 10};
        int[] lengths = {2, 2, 1, 1, 2, 1, 1, 2};
        for (int i = 0; i < bytes.length; i++) {
            PortWarden x = Play.opened();
            Play.type(x, "\026" + (char) bytes[i]);
            Play.sent(x);
            Play.type(x, "\177");
            check.is("for " + bytes[i], Play.sent(x), RUB.repeat(lengths[i]));
            check.is("column for " + bytes[i], x.column(0), 0);
        }
    }

    private static void literalEchoesNothing(Check check) {
        check.sentence("LITERAL: the next byte is stored as it is (nothing is echoed for LITERAL)");
        PortWarden x = Play.opened();
        Play.type(x, "\026");
        check.is("nothing is echoed", x.count(0, 3), 0);
        check.is("nothing is stored", x.ready(0), 0);
        Play.type(x, "a");
        check.is("the next is", Play.sent(x), "a");
        check.is("stored", readLine(x), "a\n");
    }

    private static void reprintEchoesTheOpenLine(Check check) {
        check.sentence("REPRINT: its form, 13 10, the forms of the open line's entries are echoed");
        PortWarden x = Play.opened();
        Play.type(x, "\022");
        check.is("of nothing", Play.sent(x), "^R\r\n");
        Play.type(x, "ab\n");
        Play.sent(x);
        Play.type(x, "\022");
        check.is("not of what is released", Play.sent(x), "^R\r\n");
        Play.type(x, "c\001\026\177");
        Play.sent(x);
        Play.type(x, "\022");
        check.is("of the open line", Play.sent(x), "^R\r\nc^A^?");
        check.is("its column", x.column(0), 5);
        x.mode(0, Play.REPRINT, 'r', 0);
        Play.type(x, "r");
        check.is("the form of the mode's byte", Play.sent(x), "r\r\nc^A^?");
        check.is("nothing is stored", readLine(x), "ab\nc\001\177\n");
    }

    private static void reprintNeedsRoomForAll(Check check) {
        check.sentence("An ECHO goes if there is room for all of it; otherwise nothing of it: REPRINT");
        PortWarden x = Play.opened();
        Play.type(x, "abc");
        Play.sent(x);
        Play.write(x, "w".repeat(8 + 57));
        Play.type(x, "\022");
        check.is("7 bytes fit 7", Play.sent(x).substring(65), "^R\r\nabc");

        PortWarden y = Play.opened();
        Play.type(y, "abc");
        Play.sent(y);
        Play.write(y, "w".repeat(8 + 58));
        Play.type(y, "\022");
        check.is("but not 6", Play.sent(y), "w".repeat(66));
        check.is("nor does the column change", y.column(0), 3 + 66);

        PortWarden z = Play.opened();
        z.mode(0, Play.ECHO, 0, 0);
        Play.type(z, "\001".repeat(63) + "\026\n\026\n");
        z.mode(0, Play.ECHO, 1, 0);
        Play.type(z, "\022");
        check.is("the longest of all, 134 bytes, never fits", z.count(0, 3), 0);
    }

    private static void endStoresAMark(Check check) {
        check.sentence("END: an END MARK is stored (nothing is echoed)");
        PortWarden x = Play.opened();
        Play.type(x, "\004");
        check.is("on an empty line", x.ready(0), 1);
        check.is("nothing is echoed", x.count(0, 3), 0);
        check.is("is END", x.read(0, 0), PortWarden.END);
        check.is("and taken away", x.read(0, 0), PortWarden.WAIT);
        Play.type(x, "a\004\004b");
        check.is("behind a byte, and twice", Play.read(x), "a$$");
        x.mode(0, Play.END, 0, 0);
        Play.type(x, "\0");
        check.is("a mark is no 0", Play.read(x), "b$");
    }

    private static void newlineEndsTheLine(Check check) {
        check.sentence("10 is stored, which ends the line, and echoed as 13 10");
        PortWarden x = Play.opened();
        Play.type(x, "\n");
        check.is("an empty line", x.ready(0), 1);
        check.is("echo", Play.sent(x), "\r\n");
        Play.type(x, "ab\nc");
        check.is("up to it", x.ready(0), 4);
        check.is("echo of it", Play.sent(x), "ab\r\nc");
        x.mode(0, Play.EXPANDS, 0, 0);
        Play.type(x, "\n");
        check.is("also when writing does not expand", Play.sent(x), "\r\n");
        Play.write(x, "w".repeat(8 + 63));
        Play.type(x, "d\n");
        check.is("an echo that has no room for both", x.count(0, 3), 2 + 5 + 2 + 1);
        check.is("the line ends without it", Play.read(x), "\nab\nc\nd\n");
    }

    private static void returnBecomesNewline(Check check) {
        check.sentence("With mode 3, 13 becomes 10 and comes on");
        PortWarden x = Play.opened();
        Play.type(x, "a\r");
        check.is("it ends the line", Play.read(x), "a\n");
        check.is("and is echoed as 13 10", Play.sent(x), "a\r\n");
        x.mode(0, Play.MAPS, 0, 0);
        Play.type(x, "a\r");
        check.is("without it no line ends", x.ready(0), 0);
        check.is("and its form is echoed", Play.sent(x), "a^M");
        check.is("it is stored", readLine(x), "a\r\n");
        x.mode(0, Play.MAPS, 1, 0);
        x.mode(0, Play.CANON, 0, 0);
        Play.type(x, "\r\014\016");
        check.is("also without mode 0; its neighbours stay", Play.read(x), "\n\014\016");
    }

    private static void inModeZeroOnly(Check check) {
        check.sentence("In mode 0: ERASE ... All others are stored and echoed");
        String codes = "\177\027\025\026\022\004\n";
        String forms = "^?^W^U^V^R^D^J";
        PortWarden x = Play.opened();
        x.mode(0, Play.CANON, 0, 0);
        Play.type(x, codes);
        check.is("without it they are bytes", Play.read(x), codes);
        check.is("echoed by their forms", Play.sent(x), forms);
        x.mode(0, Play.CANON, 1, 0);
        Play.type(x, "\177\027\025\022\004\026\n\n");
        check.is("with it none is but a newline", Play.read(x), "$\n\n");
    }

    private static void firstOfThese(Check check) {
        check.sentence("Otherwise the first of these");
        int[] order = {Play.STOP, Play.START, Play.INTERRUPT, Play.QUIT, Play.SUSPEND, Play.ERASE, Play.WORD, Play.KILL,
            Play.LITERAL, Play.REPRINT, Play.END};
        for (int i = 0; i < order.length; i++) {
            for (int j = i + 1; j < order.length; j++) {
                check.is("mode " + order[i] + " goes before mode " + order[j],
                        effect(order[i], order[j]), effect(order[i], order[i]));
                check.is("mode " + order[j] + " is another", effect(order[j], order[j]).equals(effect(order[i], order[i])),
                        false);
            }
        }
    }

    /** What an 'e' does when it is the byte of two modes and no other mode has one. */
    private static String effect(int one, int other) {
        PortWarden x = Play.opened();
        x.foreground(0, 0);
        for (int which = Play.ERASE; which <= Play.STOP; which++) {
            x.mode(0, which, which == one || which == other ? 'e' : 256, 0);
        }
        Play.type(x, "ab cde");
        String shown = x.signals(0) + " " + x.ready(0) + " " + x.held(0) + " " + x.column(0);
        Play.type(x, "\n");
        return shown + " " + Play.sent(x) + Play.read(x);
    }

    private static void oneThatIsNone(Check check) {
        check.sentence("the bytes (0 .. 255; 256: none)");
        int[] codes = {127, 23, 21, 22, 18, 4, 3, 28, 26, 17, 19};
        for (int i = 0; i < codes.length; i++) {
            PortWarden x = Play.opened();
            x.mode(0, Play.ERASE + i, 256, 0);
            Play.type(x, "a" + (char) codes[i]);
            check.is("none for mode " + (Play.ERASE + i), readLine(x), "a" + (char) codes[i] + "\n");
            for (int b = 0; b < 256; b += 255) {
                PortWarden y = Play.opened();
                y.mode(0, Play.ERASE + i, b, 0);
                Play.type(y, "a" + (char) b);
                check.is(b + " for mode " + (Play.ERASE + i), readLine(y).equals("a" + (char) b + "\n"), false);
            }
        }
        PortWarden x = Play.opened();
        for (int which = Play.ERASE; which <= Play.STOP; which++) {
            x.mode(0, which, 256, 0);
        }
        Play.type(x, "\0a");
        check.is("none is no 0 either", readLine(x), "\0a\n");
    }

    private static void forms(Check check) {
        check.sentence("FORM of a byte: itself from 32 on but 127; for 127 the bytes 94 63; else 94 and 64 more");
        int[] bytes = {0, 1, 9, 10, 13, 30, 31, 32, 33, 94, 126, 127, 128, 159, 160, 254, 255};
        String[] due = {"^@", "^A", "^I", "^J", "^M", "^^", "^_", " ", "!", "^", "~", "^?", "\200", "\237", "\240",
            "\376", "\377"};
        for (int i = 0; i < bytes.length; i++) {
            PortWarden x = Play.opened();
            Play.type(x, "\026" + (char) bytes[i]);
            check.is("of " + bytes[i], Play.sent(x), due[i]);
        }
    }

    private static void echoNeedsRoomForAll(Check check) {
        check.sentence("An ECHO (with mode 1) goes to the output's store if there is room for all of it");
        for (int length = 1; length < 3; length++) {
            String typed = length == 1 ? "a" : "\001";
            String shown = length == 1 ? "a" : "^A";
            PortWarden x = Play.opened();
            Play.write(x, "w".repeat(8 + 64 - length));
            Play.type(x, typed);
            check.is("just room for " + length, Play.sent(x).substring(72 - length), shown);
            PortWarden y = Play.opened();
            Play.write(y, "w".repeat(8 + 65 - length));
            Play.type(y, typed);
            check.is("one too few for " + length, Play.sent(y), "w".repeat(73 - length));
            check.is("it is stored all the same", readLine(y), typed + "\n");
        }
        PortWarden x = Play.opened();
        x.mode(0, Play.ECHO, 0, 0);
        Play.type(x, "a\001\177\022\n\003");
        check.is("without mode 1 nothing", Play.sent(x), "");
        PortWarden y = Play.opened();
        Play.write(y, "w".repeat(8 + 63));
        Play.type(y, "\032");
        check.is("a signal's echo has no room", Play.sent(y), "w".repeat(71));
    }

    private static void echoIsCounted(Check check) {
        check.sentence("An ECHO is counted, byte by byte, if there is room for all of it; otherwise nothing of it");
        PortWarden x = Play.opened();
        Play.write(x, "w".repeat(8 + 61));
        check.is("writing is not", x.count(0, 3), 0);
        Play.type(x, "\001");
        check.is("two", x.count(0, 3), 2);
        Play.type(x, "\001");
        check.is("no room for two more", x.count(0, 3), 2);
        Play.type(x, "a");
        check.is("but for one", x.count(0, 3), 3);
        Play.type(x, "a");
        check.is("none", x.count(0, 3), 3);
        check.is("all were taken", x.count(0, 0), 4);
    }
}
