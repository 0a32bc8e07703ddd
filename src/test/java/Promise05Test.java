/** carrier, and what hanging up does. */
public final class Promise05Test {
    public static void main(String[] args) {
        Check check = new Check("Promise05Test");
        signalsTheForeground(check);
        emptiesTheOutput(check);
        makesWaitingChanges(check);
        staysHungUp(check);
        check.is("port -1", new PortWarden().carrier(-1, false), false);
        check.is("port 4", new PortWarden().carrier(4, true), false);
        check.finish();
    }

    private static void signalsTheForeground(Check check) {
        PortWarden x = Play.opened();
        x.join(1, 5);
        x.join(2, 5);
        x.foreground(0, 5);
        check.is("on while on", x.carrier(0, true), true);
        check.is("no signal", x.signals(1), 0);
        check.is("off", x.carrier(0, false), true);
        check.is("process 1", x.signals(1), 8);
        check.is("process 2", x.signals(2), 8);
        check.is("process 5", x.signals(5), 8);
        check.is("process 0 is not of the group", x.signals(0), 0);
        check.is("off again", x.carrier(0, false), true);
        check.is("it does not go off twice", x.signals(1), 0);
        check.is("on", x.carrier(0, true), true);
        check.is("no signal for that", x.signals(1), 0);
        x.carrier(0, false);
        check.is("off once more, though hung up", x.signals(1), 8);
        x.foreground(0, PortWarden.NONE);
        x.carrier(0, true);
        x.carrier(0, false);
        check.is("no foreground group, no signal", x.signals(1) + x.signals(0), 0);
    }

    private static void emptiesTheOutput(Check check) {
        PortWarden x = Play.opened();
        Play.write(x, "abcdefghijklmno");
        x.carrier(0, false);
        check.is("nothing is left", x.held(0), 1);
        check.is("nothing goes", x.transmit(0), PortWarden.NONE);
        check.is("the column stays", x.column(0), 15);
        check.is("write", x.write(0, 0, 'a'), PortWarden.ERROR);
        Play.type(x, "hi\n");
        check.is("what was typed is read first, then END", Play.read(x).substring(0, 6), "hi\n$$$");
        check.is("poll", x.poll(0, 0), 1 + 2 + 4);
    }

    private static void makesWaitingChanges(Check check) {
        PortWarden x = Play.opened();
        Play.type(x, "ab\n");
        Play.write(x, "abc");
        x.mode(0, Play.ERASE, 8, 1);
        x.mode(0, Play.ERASE, 9, 1);
        x.mode(0, Play.KILL, 5, 1);
        x.carrier(0, false);
        check.is("made in order", x.modeOf(0, Play.ERASE), 9);
        check.is("all of them", x.modeOf(0, Play.KILL), 5);
        check.is("the store stays", x.ready(0), 3);
        x.carrier(0, true);
        x.open(0, 0);
        Play.write(x, "a");
        x.mode(0, Play.ECHO, 0, 2);
        check.is("waits", x.ready(0), 3);
        x.carrier(0, false);
        check.is("made, taking the store away", x.ready(0), 0);
        check.is("made", x.modeOf(0, Play.ECHO), 0);
    }

    private static void staysHungUp(Check check) {
        PortWarden x = Play.opened();
        x.carrier(0, false);
        x.carrier(0, true);
        check.is("still hung up", x.read(0, 0), PortWarden.END);
        check.is("still hung up for a writer", x.write(0, 0, 'a'), PortWarden.ERROR);
        check.is("poll says so", x.poll(0, 0) & 4, 4);
        check.is("other ports are not", x.poll(0, 1) & 4, 0);
        check.is("open", x.open(3, 0), true);
        check.is("not any more", x.poll(0, 0) & 4, 0);
    }
}
