/** tick. */
public final class Promise21Test {
    public static void main(String[] args) {
        Check check = new Check("Promise21Test");
        passesEachPort(check);
        time(check);
        timeCountsFromTheLastEntry(check);
        timeIsForOthers(check);
        pushesAndMakesChanges(check);
        check.finish();
    }

    private static void passesEachPort(Check check) {
        PortWarden x = new PortWarden();
        for (int port = 0; port < 4; port++) {
            x.receive(port, 'a', 0);
            x.receive(port, '\n', 0);
        }
        x.tick();
        for (int port = 0; port < 4; port++) {
            check.is("port " + port, x.ready(port), 2);
            check.is("echo of port " + port, x.transmit(port), 'a');
        }
    }

    private static PortWarden slow(int time) {
        PortWarden x = Play.raw();
        x.mode(0, Play.LEAST, 10, 0);
        x.mode(0, Play.TIME, time, 0);
        return x;
    }

    private static void time(Check check) {
        PortWarden x = slow(3);
        Play.type(x, "ab");
        x.tick();
        x.tick();
        check.is("two ticks", x.ready(0), 0);
        x.tick();
        check.is("three", x.ready(0), 2);
        Play.type(x, "c");
        check.is("one more comes", x.ready(0), 2);
        x.tick();
        x.tick();
        check.is("two ticks again", x.ready(0), 2);
        x.tick();
        check.is("three again", x.ready(0), 3);

        PortWarden y = slow(1);
        y.receive(0, 'a', 0);
        y.tick();
        check.is("the tick that passes it counts", y.ready(0), 1);

        PortWarden z = slow(20);
        Play.type(z, "a");
        for (int i = 0; i < 19; i++) {
            z.tick();
        }
        check.is("19 ticks", z.ready(0), 0);
        z.tick();
        check.is("20 ticks", z.ready(0), 1);
    }

    private static void timeCountsFromTheLastEntry(Check check) {
        PortWarden x = slow(2);
        Play.type(x, "a");
        x.tick();
        x.receive(0, 'b', 0);
        x.tick();
        check.is("one tick since the last", x.ready(0), 0);
        x.receive(0, 'c', 1);
        x.tick();
        check.is("a dropped one is no entry", x.ready(0), 2);
        Play.read(x);
        Play.type(x, "d");
        x.mode(0, Play.TIME, 0, 0);
        for (int i = 0; i < 5; i++) {
            x.tick();
        }
        check.is("TIME 0 releases nothing", x.ready(0), 0);
        x.mode(0, Play.TIME, 4, 0);
        check.is("nor does setting it", x.ready(0), 0);
        x.tick();
        check.is("more ticks than TIME have gone", x.ready(0), 1);
    }

    private static void timeIsForOthers(Check check) {
        PortWarden x = Play.opened();
        x.mode(0, Play.TIME, 1, 0);
        Play.type(x, "a");
        x.tick();
        x.tick();
        check.is("with canon nothing is released", x.ready(0), 0);
        x.mode(0, Play.LEAST, 9, 0);
        x.mode(0, Play.CANON, 0, 0);
        Play.read(x);
        x.open(0, 1);
        x.receive(1, 'b', 0);
        x.tick();
        check.is("another port's TIME is its own", x.ready(1), 0);
    }

    private static void pushesAndMakesChanges(Check check) {
        PortWarden x = Play.opened();
        for (int i = 0; i < 4; i++) {
            x.receive(0, 'a' + i, 0);
        }
        x.tick();
        Play.type(x, "\003");
        check.is("what was passed was pushed behind that", Play.sent(x), "abcd^C");
        for (int i = 0; i < 9; i++) {
            x.receive(0, 'a' + i, 0);
        }
        x.tick();
        Play.type(x, "j\003");
        check.is("the sender takes eight at once", Play.sent(x), "abcdefgh^C");
        Play.type(x, "ab");
        x.mode(0, Play.KILL, 1, 1);
        x.mode(0, Play.ERASE, 2, 2);
        Play.type(x, "\003cd\n");
        check.is("they wait", x.modeOf(0, Play.KILL), 21);
        x.tick();
        check.is("the first is made", x.modeOf(0, Play.KILL), 1);
        check.is("the second", x.modeOf(0, Play.ERASE), 2);
        check.is("takes the store away", x.ready(0), 0);
    }
}
