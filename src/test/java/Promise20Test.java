/** ready: how many entries are released. */
public final class Promise20Test {
    public static void main(String[] args) {
        Check check = new Check("Promise20Test");
        withCanon(check);
        withoutCanon(check);
        fullStore(check);
        check.is("port -1", new PortWarden().ready(-1), PortWarden.NONE);
        check.is("port 4", new PortWarden().ready(4), PortWarden.NONE);
        check.finish();
    }

    private static void withCanon(Check check) {
        PortWarden x = Play.opened();
        x.receive(0, '\n', 0);
        check.is("not passed by asking", x.ready(0), 0);
        x.poll(0, 0);
        check.is("a newline", x.ready(0), 1);
        Play.type(x, "ab");
        check.is("an open line", x.ready(0), 1);
        Play.type(x, "\004");
        check.is("an end mark is an entry", x.ready(0), 4);
        Play.type(x, "c\026\nd");
        check.is("a newline as it is ends no line", x.ready(0), 4);
        Play.type(x, "\r");
        check.is("a return that becomes one does", x.ready(0), 8);
        x.read(0, 0);
        check.is("one less", x.ready(0), 7);
        check.is("another port", x.ready(1), 0);
        x.mode(0, Play.MAPS, 0, 0);
        Play.type(x, "e\r");
        check.is("a return that stays one ends no line", x.ready(0), 7);
    }

    private static void withoutCanon(Check check) {
        PortWarden x = Play.raw();
        Play.type(x, "a");
        check.is("LEAST 1", x.ready(0), 1);
        x.mode(0, Play.LEAST, 4, 0);
        Play.type(x, "b\n");
        check.is("three, LEAST 4", x.ready(0), 1);
        Play.type(x, "\004");
        check.is("four", x.ready(0), 4);
        x.read(0, 0);
        check.is("what was released stays so", x.ready(0), 3);
        x.read(0, 0);
        Play.type(x, "c");
        check.is("two and a new one", x.ready(0), 2);
        Play.type(x, "d");
        check.is("and one more", x.ready(0), 4);
        Play.read(x);
        Play.type(x, "ef");
        check.is("two", x.ready(0), 0);
        check.is("cannot be read", x.read(0, 0), PortWarden.WAIT);
        x.mode(0, Play.LEAST, 2, 0);
        check.is("as soon as there are LEAST", x.ready(0), 2);
        Play.read(x);
        x.mode(0, Play.LEAST, 0, 0);
        check.is("nothing there", x.ready(0), 0);
        Play.type(x, "g");
        check.is("LEAST 0 is as 1", x.ready(0), 1);
        x.mode(0, Play.LEAST, 32, 0);
        Play.read(x);
        Play.type(x, 'h', 31);
        check.is("31", x.ready(0), 0);
        Play.type(x, "h");
        check.is("32", x.ready(0), 32);
    }

    private static void fullStore(Check check) {
        PortWarden x = Play.opened();
        x.mode(0, Play.ECHO, 0, 0);
        Play.type(x, 'a', 65);
        check.is("64 fit", x.count(0, 2), 1);
        Play.type(x, "\n");
        check.is("a newline is a 65th", x.ready(0), 65);
        Play.type(x, "\n\004b");
        check.is("nothing is a 66th", x.count(0, 2), 4);
        x.read(0, 0);
        Play.type(x, "c\004");
        check.is("an end mark is a 65th", x.ready(0), 65);
        check.is("but no other", x.count(0, 2), 5);
        check.is("all of it", Play.read(x), "a".repeat(63) + "\n$");

        PortWarden y = Play.raw();
        Play.type(y, 'a', 64);
        Play.type(y, "\n");
        check.is("without canon there is no 65th", y.ready(0), 64);
        check.is("it is dropped", y.count(0, 2), 1);
    }
}
