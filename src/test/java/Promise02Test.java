/** receive. */
public final class Promise02Test {
    public static void main(String[] args) {
        Check check = new Check("Promise02Test");
        room(check);
        wrongNumbers(check);
        flags(check);
        bytesKeepTheirOrder(check);
        check.finish();
    }

    private static void room(Check check) {
        PortWarden x = Play.raw();
        for (int i = 0; i < 8; i++) {
            check.is("byte " + i, x.receive(0, 'a' + i, 0), true);
        }
        check.is("a ninth", x.receive(0, 'i', 0), false);
        check.is("a tenth", x.receive(0, 'j', 3), false);
        check.is("another port has its own room", x.receive(1, 'k', 0), true);
        check.is("overruns", x.count(0, 1), 2);
        check.is("taken", x.count(0, 0), 8);
        check.is("nothing is passed by receiving", x.ready(0), 0);
        check.is("read", Play.read(x), "abcdefgh");
        check.is("room again", x.receive(0, 'l', 0), true);
        check.is("an overrun is not a dropped one", x.count(0, 2), 0);
    }

    private static void wrongNumbers(Check check) {
        PortWarden x = Play.raw();
        check.is("port -1", x.receive(-1, 0, 0), false);
        check.is("port 4", x.receive(4, 0, 0), false);
        check.is("byte -1", x.receive(0, -1, 0), false);
        check.is("byte 256", x.receive(0, 256, 0), false);
        check.is("flags -1", x.receive(0, 0, -1), false);
        check.is("flags 4", x.receive(0, 0, 4), false);
        check.is("nothing was taken", x.count(0, 0), 0);
        check.is("nothing was overrun", x.count(0, 1), 0);
        for (int i = 0; i < 8; i++) {
            x.receive(0, 'a', 0);
        }
        check.is("wrong flags on a full receiver", x.receive(0, 0, 4), false);
        check.is("are no overrun", x.count(0, 1), 0);
        check.is("byte 0", x.receive(3, 0, 0), true);
        check.is("byte 255 and flags 3", x.receive(3, 255, 3), true);
    }

    private static void flags(Check check) {
        PortWarden x = Play.raw();
        x.mode(0, Play.SIGNALS, 0, 0);
        x.receive(0, 'a', 0);
        x.receive(0, 'b', 1);
        x.receive(0, 'c', 2);
        x.receive(0, 'd', 3);
        check.is("a bad one is dropped, breaks are 0", Play.read(x), "a\0\0");
        check.is("dropped", x.count(0, 2), 1);
        x.mode(0, Play.BAD, 1, 0);
        x.receive(0, 'e', 1);
        x.receive(0, 'f', 3);
        check.is("a bad one comes as 0", Play.read(x), "\0\0");
        check.is("dropped, then", x.count(0, 2), 1);
    }

    private static void bytesKeepTheirOrder(Check check) {
        PortWarden x = Play.raw();
        for (int i = 0; i < 5; i++) {
            Play.type(x, "abcde");
            Play.type(x, "fghijk");
            check.is("round " + i, Play.read(x), "abcdefghijk");
        }
    }
}
