/** count. */
public final class Promise17Test {
    public static void main(String[] args) {
        Check check = new Check("Promise17Test");
        PortWarden x = Play.opened();
        for (int i = 0; i < 10; i++) {
            x.receive(0, 'a', i == 3 ? 1 : 0);
        }
        x.tick();
        check.is("taken", x.count(0, 0), 8);
        check.is("overruns", x.count(0, 1), 2);
        check.is("dropped", x.count(0, 2), 1);
        check.is("echoed", x.count(0, 3), 7);
        check.is("transmitted", x.count(0, 4), 0);
        Play.type(x, "\001\177");
        check.is("echoed: a form of two, an erasure of six", x.count(0, 3), 7 + 2 + 6);
        Play.sent(x);
        check.is("transmitted, then", x.count(0, 4), 15);
        x.flush(0, 2);
        check.is("a flush counts nothing back", x.count(0, 3), 15);
        Play.type(x, "\b\n");
        check.is("echoed: ^H and a newline", x.count(0, 3), 19);
        x.mode(0, Play.ECHO, 0, 0);
        Play.type(x, "abc");
        check.is("without echo", x.count(0, 3), 19);
        Play.type(x, 'x', 62);
        check.is("taken, then", x.count(0, 0), 8 + 2 + 2 + 3 + 62);
        check.is("dropped for want of room", x.count(0, 2), 1 + 3);
        check.is("another port", x.count(1, 0), 0);
        check.is("port -1", x.count(-1, 0), PortWarden.NONE);
        check.is("port 4", x.count(4, 0), PortWarden.NONE);
        check.is("what -1", x.count(0, -1), PortWarden.NONE);
        check.is("what 5", x.count(0, 5), PortWarden.NONE);
        check.finish();
    }
}
