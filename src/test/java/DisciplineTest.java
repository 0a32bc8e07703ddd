/** Terms: what the discipline makes of bytes, and what it echoes. */
public final class DisciplineTest {
    private static final String RUB = Play.RUB;

    public static void main(String[] args) {
        Check check = new Check("DisciplineTest");
        forms(check);
        erasing(check);
        words(check);
        literal(check);
        reprint(check);
        stopAndStart(check);
        signals(check);
        breaks(check);
        noneAndOrder(check);
        withoutCanon(check);
        roomForEchoes(check);
        check.finish();
    }

    private static void forms(Check check) {
        PortWarden x = Play.opened();
        x.mode(0, Play.ERASE, 256, 0);
        Play.type(x, "a ~\177\200\377\0\037\t");
        check.is("forms", Play.sent(x), "a ~^?\200\377^@^_^I");
        Play.type(x, "\r");
        check.is("a newline", Play.sent(x), "\r\n");
        check.is("entries", Play.read(x), "a ~\177\200\377\0\037\t\n");
        x.mode(0, Play.MAPS, 0, 0);
        Play.type(x, "\r\n");
        check.is("a return that is not mapped", Play.sent(x), "^M\r\n");
        x.mode(0, Play.EXPANDS, 0, 0);
        x.mode(0, Play.TABS, 1, 0);
        Play.type(x, "\t\n");
        check.is("an echo is not expanded, a newline is 13 10 all the same", Play.sent(x), "^I\r\n");
    }

    private static void erasing(Check check) {
        PortWarden x = Play.opened();
        Play.type(x, "\177\025\027");
        check.is("nothing to erase", Play.sent(x), "");
        Play.type(x, "a\001\177");
        check.is("a form of two", Play.sent(x), "a^A" + RUB + RUB);
        Play.type(x, "b\177\177\177");
        check.is("no more than there is", Play.sent(x), "b" + RUB + RUB);
        Play.type(x, "cd\ne\025\177\n");
        check.is("a released line is not touched", Play.read(x), "cd\n\n");
        check.is("echo", Play.sent(x), "cd\r\ne" + RUB + "\r\n");
        Play.type(x, "a\004b\025\177");
        check.is("nor is one behind an end mark", Play.read(x), "a$");
        x.mode(0, Play.ECHO, 0, 0);
        Play.type(x, "fg\177\n");
        check.is("without echo", Play.read(x), "f\n");
        check.is("nothing is echoed", Play.sent(x), "ab" + RUB);
    }

    private static void words(Check check) {
        PortWarden x = Play.opened();
        Play.type(x, "ab cd \t \027");
        check.is("blanks, then a word", Play.sent(x), "ab cd ^I " + RUB.repeat(4 + 2));
        Play.type(x, "\027");
        check.is("a blank, then a word", Play.sent(x), RUB.repeat(3));
        Play.type(x, "  \027");
        check.is("blanks alone", Play.sent(x), "  " + RUB.repeat(2));
        Play.type(x, "x y\027\n");
        check.is("left", Play.read(x), "x \n");
        Play.type(x, "  \ny\027\027z\n");
        check.is("not into a released line", Play.read(x), "  \nz\n");
    }

    private static void literal(Check check) {
        PortWarden x = Play.opened();
        x.foreground(0, 0);
        Play.type(x, "\026");
        check.is("nothing is echoed for it", Play.sent(x), "");
        Play.type(x, "\003\026\026\026\023\026\r\026\177\026\004\026\n");
        check.is("forms", Play.sent(x), "^C^V^S^M^?^D^J");
        check.is("no signal", x.signals(0), 0);
        check.is("not released", x.ready(0), 0);
        Play.type(x, "\177\n");
        check.is("a newline as it is can be erased", Play.sent(x), RUB + RUB + "\r\n");
        check.is("entries", Play.read(x), "\003\026\023\r\177\004\n");
        Play.type(x, "\026");
        x.receive(0, 'a', 1);
        Play.type(x, "\003");
        check.is("a dropped one is not the next byte", x.signals(0), 0);
        x.mode(0, Play.BAD, 1, 0);
        Play.type(x, "\026");
        x.receive(0, 'a', 1);
        Play.type(x, "\003");
        check.is("behind a 0 it is over", x.signals(0), 1);
        Play.type(x, "\026");
        x.mode(0, Play.CANON, 0, 0);
        Play.type(x, "\003");
        check.is("it outlives canon", x.signals(0), 0);
        Play.type(x, "\026\003");
        check.is("without canon there is none", x.signals(0), 1);
    }

    private static void reprint(Check check) {
        PortWarden x = Play.opened();
        Play.type(x, "ab\ncd\001\177e\002");
        Play.sent(x);
        Play.type(x, "\022");
        check.is("the open line", Play.sent(x), "^R\r\ncde^B");
        check.is("column", x.column(0), 5);
        Play.type(x, "\n\022");
        check.is("an empty one", Play.sent(x), "\r\n^R\r\n");
        check.is("is not stored", Play.read(x), "ab\ncde\002\n");
        Play.type(x, 'x', 60);
        Play.sent(x);
        long before = x.count(0, 3);
        Play.type(x, "\022");
        check.is("64 bytes just fit", x.count(0, 3) - before, 64);
        Play.sent(x);
        Play.type(x, "x");
        Play.sent(x);
        Play.type(x, "\022");
        check.is("65 do not: nothing of it", Play.sent(x), "");
        Play.type(x, "\025");
        Play.sent(x);
        Play.type(x, "\001".repeat(64));
        Play.sent(x);
        Play.type(x, "\022");
        check.is("nor does the longest", Play.sent(x), "");
    }

    private static void stopAndStart(Check check) {
        PortWarden x = Play.opened();
        Play.type(x, "a\023b");
        check.is("held", Play.sent(x), "");
        check.is("why", x.held(0), 2);
        Play.type(x, "\023\021");
        check.is("neither is stored or echoed", Play.sent(x), "ab");
        x.mode(0, Play.ANY, 1, 0);
        Play.type(x, "\023");
        x.receive(0, 'c', 1);
        Play.type(x, "");
        check.is("a dropped one starts nothing", x.held(0), 1);
        Play.type(x, "d");
        check.is("any byte starts again and comes on", Play.sent(x), "d");
        Play.type(x, "\023\023e");
        check.is("STOP twice", Play.sent(x), "e");
        Play.type(x, "\026\023\023\026f");
        check.is("LITERAL is a byte, too", Play.sent(x), "^Sf");
        Play.type(x, "\026");
        Play.type(x, "\023");
        Play.type(x, "\023");
        check.is("one behind LITERAL is stored", Play.read(x), "");
        x.mode(0, Play.ANY, 0, 0);
        x.mode(0, Play.HEEDS, 0, 0);
        Play.type(x, "\021");
        check.is("without heed START is stored, and lets nothing go", Play.sent(x), "");
        Play.type(x, "\n");
        check.is("entries", Play.read(x), "abde\023f\023\021\n");
        x.mode(0, Play.HEEDS, 1, 0);
        Play.type(x, "\021");
        check.is("with it", Play.sent(x), "^S^Q\r\n");
        x.mode(0, Play.START, 19, 0);
        x.write(0, 0, 'a');
        Play.type(x, "\023");
        check.is("STOP comes before START", x.held(0), 2);
    }

    private static void signals(Check check) {
        PortWarden x = Play.opened();
        x.join(1, 0);
        x.foreground(0, 0);
        byte[] codes = {3, 28, 26};
        int[] raised = {1, 2, 4};
        String[] shown = {"^C", "^\\", "ab\r\nc^Z"};
        for (int i = 0; i < 3; i++) {
            Play.type(x, "ab\nc" + (char) codes[i]);
            check.is("signal", x.signals(0), raised[i]);
            check.is("signal for the group", x.signals(1), raised[i]);
            check.is("the store is emptied", x.ready(0), 0);
            check.is("the output's store", Play.sent(x), shown[i]);
            Play.type(x, "\n");
            check.is("the open line is gone", Play.read(x), "\n");
            Play.sent(x);
        }
        x.mode(0, Play.KEEPS, 1, 0);
        Play.type(x, "ab\003\034\032\n");
        check.is("kept: the output's store", Play.sent(x), "ab^C^\\^Z\r\n");
        check.is("kept: the store", Play.read(x), "ab\n");
        check.is("all signals", x.signals(0), 7);
        x.mode(0, Play.KEEPS, 0, 0);
        x.foreground(0, PortWarden.NONE);
        Play.type(x, "ab\003");
        check.is("no foreground group: no signal", x.signals(0), 0);
        check.is("but all else", Play.sent(x), "^C");
        x.mode(0, Play.SIGNALS, 0, 0);
        Play.type(x, "\003\034\032\n");
        check.is("without signals they are bytes", Play.read(x), "\003\034\032\n");
    }

    private static void breaks(Check check) {
        PortWarden x = Play.opened();
        x.foreground(0, 0);
        Play.type(x, "ab");
        x.receive(0, 'z', 2);
        Play.type(x, "");
        check.is("a break interrupts", x.signals(0), 1);
        check.is("with the byte of the mode", Play.sent(x), "^C");
        x.mode(0, Play.INTERRUPT, 'i', 0);
        x.receive(0, 0, 3);
        Play.type(x, "");
        check.is("a bad break, too", x.signals(0), 1);
        check.is("with the byte of the mode then", Play.sent(x), "i");
        x.mode(0, Play.INTERRUPT, 256, 0);
        Play.type(x, "ab");
        x.receive(0, 'z', 2);
        Play.type(x, "");
        check.is("also when that is none", x.signals(0), 1);
        check.is("without an echo", Play.sent(x), "");
        x.mode(0, Play.SIGNALS, 0, 0);
        x.receive(0, 'z', 2);
        x.receive(0, 'y', 3);
        Play.type(x, "\n");
        check.is("without signals it is a 0", Play.read(x), "\0\0\n");
        check.is("echoed", Play.sent(x), "^@^@\r\n");
        x.mode(0, Play.ERASE, 0, 0);
        x.mode(0, Play.STOP, 0, 0);
        x.receive(0, 'z', 2);
        Play.type(x, "\n");
        check.is("such a 0 is as it is", Play.read(x), "\0\n");
    }

    private static void noneAndOrder(Check check) {
        PortWarden x = Play.opened();
        x.foreground(0, 0);
        for (int which = Play.ERASE; which <= Play.STOP; which++) {
            x.mode(0, which, 256, 0);
        }
        Play.type(x, "\177\027\025\026\022\004\003\034\032\021\023\n");
        check.is("none of them is there", Play.read(x), "\177\027\025\026\022\004\003\034\032\021\023\n");
        check.is("no signal", x.signals(0), 0);
        Play.sent(x);
        x.mode(0, Play.ERASE, 13, 0);
        Play.type(x, "a\r");
        check.is("a return is a newline before it is ERASE", Play.read(x), "a\n");
        x.mode(0, Play.ERASE, 10, 0);
        Play.type(x, "ab\r");
        check.is("ERASE comes before the newline", x.ready(0), 0);
        x.mode(0, Play.ERASE, 'e', 0);
        x.mode(0, Play.KILL, 'e', 0);
        Play.type(x, "be\n");
        check.is("ERASE comes before KILL", Play.read(x), "a\n");
        x.mode(0, Play.INTERRUPT, 'e', 0);
        x.mode(0, Play.QUIT, 'e', 0);
        Play.type(x, "e");
        check.is("INTERRUPT comes before both and before QUIT", x.signals(0), 1);
        x.mode(0, Play.START, 'e', 0);
        Play.type(x, "e");
        check.is("START comes before INTERRUPT", x.signals(0), 0);
        x.mode(0, Play.INTERRUPT, 13, 0);
        Play.type(x, "\r");
        check.is("INTERRUPT comes before a return is mapped", x.signals(0), 1);
    }

    private static void withoutCanon(Check check) {
        PortWarden x = Play.opened();
        x.foreground(0, 0);
        x.mode(0, Play.CANON, 0, 0);
        Play.type(x, "a\177\027\025\026\022\004\n\r");
        check.is("all are bytes", Play.read(x), "a\177\027\025\026\022\004\n\n");
        check.is("and echoed as such", Play.sent(x), "a^?^W^U^V^R^D^J^J");
        Play.type(x, "b\003");
        check.is("signals are signals", x.signals(0), 1);
        Play.type(x, "\023c");
        check.is("STOP is STOP", Play.read(x), "c");
    }

    private static void roomForEchoes(Check check) {
        PortWarden x = Play.opened();
        Play.type(x, 'x', 62);
        Play.type(x, "\001");
        check.is("an echo of two fits", x.count(0, 3), 64);
        Play.type(x, "y");
        check.is("one more does not", x.count(0, 3), 64);
        check.is("column", x.column(0), 64);
        Play.sent(x);
        Play.type(x, "z");
        check.is("no room in the store: not echoed", Play.sent(x), "");
        check.is("dropped", x.count(0, 2), 1);
        Play.type(x, "\n");
        check.is("the 65th is echoed", Play.sent(x), "\r\n");
        check.is("what was not echoed was stored", Play.read(x), "x".repeat(62) + "\001y\n");
        Play.write(x, "w".repeat(8 + 63));
        Play.type(x, "\001");
        check.is("nothing of an echo that does not fit", x.column(0), 71);
        Play.type(x, "a");
        check.is("a shorter one goes", x.column(0), 72);
        Play.sent(x);
        Play.write(x, "w".repeat(8 + 60));
        Play.type(x, "\025");
        check.is("each erasure is an echo of its own", Play.sent(x).substring(68), RUB);
    }
}
