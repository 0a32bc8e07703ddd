/** Sentences on new objects, on opening and closing, on the carrier and on a port that is hung up. */
public final class EdgesOfPortsTest {
    public static void main(String[] args) {
        Check check = new Check("EdgesOfPortsTest");
        newObject(check);
        modesAtFirst(check);
        openOrNot(check);
        openTwice(check);
        openWithoutCarrier(check);
        openWhenHungUp(check);
        othersHaveItNoMore(check);
        closing(check);
        goesOff(check);
        signalEight(check);
        outputIsEmptied(check);
        waitingChangesAreMade(check);
        untilAProcessOpensIt(check);
        pollSaysFour(check);
        hungUpPortsGoOn(check);
        eachPortByItself(check);
        fiveHundredAndTwelveCalls(check);
        check.finish();
    }

    private static void newObject(Check check) {
        check.sentence("All ports have their carrier and are clear to send; no process has one open");
        for (int port = 0; port < 4; port++) {
            PortWarden x = new PortWarden();
            for (int process = 0; process < 8; process++) {
                check.is("not open", x.close(process, port), false);
                check.is("not hung up", x.poll(process, port), 1 + 2);
            }
            check.is("its carrier is on", x.open(0, port), true);
            x.write(0, port, 'a');
            check.is("clear to send", x.transmit(port), 'a');
        }
        PortWarden x = new PortWarden();
        x.open(0, 0);
        check.is("another object is another", new PortWarden().close(0, 0), false);
    }

    private static void modesAtFirst(Check check) {
        check.sentence("MODES of a port, by number, with their values at first");
        int[] first = {1, 1, 1, 1, 1, 0, 0, 1, 0, 0, 0, 0, 1, 0, 127, 23, 21, 22, 18, 4, 3, 28, 26, 17, 19};
        PortWarden x = new PortWarden();
        PortWarden changed = new PortWarden();
        for (int which = 0; which < 25; which++) {
            changed.mode(0, which, 1 - Math.min(1, first[which]), 0);
        }
        for (int port = 0; port < 4; port++) {
            for (int which = 0; which < 25; which++) {
                check.is("mode " + which + " of port " + port, x.modeOf(port, which), first[which]);
            }
        }
        check.is("another object's changes", new PortWarden().modeOf(0, 0), 1);
    }

    private static void openOrNot(Check check) {
        check.sentence("A process has an OPEN port or not, each port by itself");
        PortWarden x = new PortWarden();
        x.open(3, 1);
        for (int process = 0; process < 8; process++) {
            for (int port = 0; port < 4; port++) {
                check.is("process " + process + ", port " + port, x.read(process, port),
                        process == 3 && port == 1 ? PortWarden.WAIT : PortWarden.ERROR);
            }
        }
    }

    private static void openTwice(Check check) {
        check.sentence("false also when it has it open (and it isn't hung up)");
        PortWarden x = new PortWarden();
        check.is("once", x.open(0, 0), true);
        check.is("twice", x.open(0, 0), false);
        check.is("it has it still", x.write(0, 0, 'a'), 1);
        check.is("another may", x.open(1, 0), true);
        x.close(0, 0);
        check.is("again when it was closed", x.open(0, 0), true);
    }

    private static void openWithoutCarrier(Check check) {
        check.sentence("false also when its carrier is off");
        PortWarden x = new PortWarden();
        x.carrier(0, false);
        check.is("off", x.open(0, 0), false);
        check.is("so it hasn't it", x.read(0, 0), PortWarden.ERROR);
        check.is("another port", x.open(0, 1), true);
        x.carrier(0, true);
        check.is("on", x.open(0, 0), true);
        x.carrier(0, false);
        check.is("off, while it has it open", x.open(0, 0), false);
        check.is("which it keeps", x.read(0, 0), PortWarden.END);
    }

    private static void openWhenHungUp(Check check) {
        check.sentence("it has it open (and it isn't hung up). It isn't hung up any more then");
        PortWarden x = Play.opened();
        x.carrier(0, false);
        x.carrier(0, true);
        check.is("hung up: it may open it again", x.open(0, 0), true);
        check.is("it has it", x.write(0, 0, 'a'), 1);
        check.is("not hung up any more", x.poll(0, 0) & 4, 0);
        check.is("so not once more", x.open(0, 0), false);
    }

    private static void othersHaveItNoMore(Check check) {
        check.sentence("all others that had it open while it was, have it no more");
        PortWarden x = new PortWarden();
        for (int process = 0; process < 8; process++) {
            x.open(process, 0);
            x.open(process, 1);
        }
        x.carrier(0, false);
        x.carrier(0, true);
        check.is("they have it until then", x.read(7, 0), PortWarden.END);
        x.open(4, 0);
        for (int process = 0; process < 8; process++) {
            check.is("process " + process, x.read(process, 0), process == 4 ? PortWarden.WAIT : PortWarden.ERROR);
            check.is("its other port", x.read(process, 1), PortWarden.WAIT);
        }
        check.is("one of them opens it", x.open(7, 0), true);
        check.is("and takes it from nobody", x.read(4, 0), PortWarden.WAIT);
    }

    private static void closing(Check check) {
        check.sentence("A process closes a port; false when it hasn't it open");
        PortWarden x = new PortWarden();
        check.is("not open", x.close(0, 0), false);
        x.open(0, 0);
        x.open(1, 0);
        check.is("open", x.close(0, 0), true);
        check.is("twice", x.close(0, 0), false);
        check.is("the other's is open", x.close(1, 0), true);
        x.open(0, 0);
        x.open(1, 0);
        x.carrier(0, false);
        check.is("while it is hung up", x.close(0, 0), true);
        check.is("it is hung up still", x.poll(1, 0) & 4, 4);
        x.carrier(0, true);
        x.open(2, 0);
        check.is("one that has it no more", x.close(1, 0), false);
    }

    private static void goesOff(Check check) {
        check.sentence("A PORT whose CARRIER goes off HANGS UP");
        PortWarden x = Play.opened();
        x.foreground(0, 0);
        check.is("on when it is on", x.carrier(0, true), true);
        check.is("does nothing", x.poll(0, 0), 2);
        check.is("off", x.carrier(0, false), true);
        check.is("hangs up", x.poll(0, 0) & 4, 4);
        check.is("one signal", x.signals(0), 8);
        check.is("off when it is off", x.carrier(0, false), true);
        check.is("it does not go off", x.signals(0), 0);
        check.is("on again", x.carrier(0, true), true);
        check.is("that is no signal", x.signals(0), 0);
        x.carrier(0, false);
        check.is("off again, though it was hung up still", x.signals(0), 8);
    }

    private static void signalEight(Check check) {
        check.sentence("signal 8 for each process of the foreground group");
        PortWarden x = new PortWarden();
        x.join(1, 7);
        x.join(2, 7);
        x.join(7, 3);
        x.foreground(0, 7);
        x.carrier(0, false);
        for (int process = 0; process < 8; process++) {
            check.is("process " + process, x.signals(process), process == 1 || process == 2 ? 8 : 0);
        }
        x.foreground(1, PortWarden.NONE);
        x.carrier(1, false);
        for (int process = 0; process < 8; process++) {
            check.is("no group, process " + process, x.signals(process), 0);
        }
    }

    private static void outputIsEmptied(Check check) {
        check.sentence("the output's store and the sender are emptied");
        PortWarden x = Play.opened();
        Play.write(x, "w".repeat(72));
        x.carrier(0, false);
        check.is("nothing is there", x.held(0), 1);
        check.is("all is free", x.poll(0, 0) & 2, 2);
        x.carrier(0, true);
        x.open(0, 0);
        check.is("nothing is left", x.transmit(0), PortWarden.NONE);
        check.is("room for 72", Play.write(x, "w".repeat(72)), 1);
        check.is("and no more", x.write(0, 0, 'w'), PortWarden.WAIT);
        x.flush(0, 1);
        Play.type(x, "\023a\n");
        x.carrier(0, false);
        check.is("the store is not", x.ready(0), 2);
        Play.type(x, "b");
        check.is("what holds output stays", x.held(0), 2);
    }

    private static void waitingChangesAreMade(Check check) {
        check.sentence("waiting changes are made in order");
        PortWarden x = Play.opened();
        Play.type(x, "a\n");
        Play.write(x, "w".repeat(20));
        x.mode(0, Play.TIME, 1, 1);
        x.mode(0, Play.TIME, 2, 2);
        x.mode(0, Play.LEAST, 3, 1);
        check.is("they wait", x.modeOf(0, Play.TIME), 0);
        x.carrier(0, true);
        check.is("for the carrier to go", x.modeOf(0, Play.TIME), 0);
        x.carrier(0, false);
        check.is("the second behind the first", x.modeOf(0, Play.TIME), 2);
        check.is("and the third", x.modeOf(0, Play.LEAST), 3);
        check.is("with taking the store away", x.ready(0), 0);
    }

    private static void untilAProcessOpensIt(Check check) {
        check.sentence("until a process opens it while the carrier is on, it is hung up");
        PortWarden x = Play.opened();
        x.carrier(0, false);
        check.is("off", x.poll(0, 0) & 4, 4);
        x.open(1, 0);
        check.is("an open that is refused", x.poll(0, 0) & 4, 4);
        x.carrier(0, true);
        check.is("the carrier alone", x.poll(0, 0) & 4, 4);
        x.open(1, 1);
        check.is("an open of another port", x.poll(0, 0) & 4, 4);
        x.close(0, 0);
        check.is("a close", x.poll(0, 0) & 4, 4);
        x.open(1, 0);
        check.is("an open", x.poll(1, 0) & 4, 0);
        check.is("by one that never had it", x.read(1, 0), PortWarden.WAIT);
    }

    private static void pollSaysFour(Check check) {
        check.sentence("4 if it is hung up, together");
        PortWarden x = Play.opened();
        check.is("not", x.poll(0, 0), 2);
        x.carrier(0, false);
        check.is("hung up", x.poll(0, 0), 7);
        Play.type(x, 'a', 57);
        check.is("with 7 free", x.poll(0, 0), 5);
        check.is("for one that hasn't it", x.poll(5, 0), 5);
        check.is("another port", x.poll(0, 1), 3);
    }

    private static void hungUpPortsGoOn(Check check) {
        check.sentence("ERROR (write) when it is hung up; END (read) when it is hung up: all else goes on");
        PortWarden x = Play.opened();
        x.foreground(0, 0);
        x.carrier(0, false);
        x.signals(0);
        check.is("receive", x.receive(0, 'a', 0), true);
        check.is("write", x.write(0, 0, 'b'), PortWarden.ERROR);
        check.is("read", x.read(0, 0), PortWarden.END);
        check.is("an echo goes", x.transmit(0), 'a');
        Play.type(x, "\003");
        check.is("a signal is raised", x.signals(0), 1);
        check.is("a mode changes", x.mode(0, Play.TIME, 3, 0), true);
        check.is("to its value", x.modeOf(0, Play.TIME), 3);
    }

    private static void eachPortByItself(Check check) {
        check.sentence("PORTS 0 .. 3: what is done to one is not done to another");
        for (int port = 0; port < 4; port++) {
            PortWarden x = new PortWarden();
            for (int i = 0; i < 4; i++) {
                x.open(0, i);
                x.write(0, i, 'a' + i);
            }
            x.clear(port, false);
            x.receive(port, 'x', 0);
            x.poll(0, port);
            x.mode(port, Play.TIME, 9, 0);
            for (int i = 0; i < 4; i++) {
                check.is("clear " + i, x.held(i), i == port ? 3 : 0);
                check.is("echo " + i, x.count(i, 3), i == port ? 1 : 0);
                check.is("mode " + i, x.modeOf(i, Play.TIME), i == port ? 9 : 0);
            }
            x.carrier(port, false);
            for (int i = 0; i < 4; i++) {
                check.is("carrier " + i, x.transmit(i), i == port ? PortWarden.NONE : 'a' + i);
            }
        }
    }

    private static void fiveHundredAndTwelveCalls(Check check) {
        check.sentence("An object is used for at most 512 calls after it has been made");
        PortWarden x = Play.raw();
        for (int i = 0; i < 126; i++) {
            x.receive(0, 'a', 0);
            x.read(0, 0);
            x.write(0, 0, 'b');
            x.transmit(0);
        }
        check.is("the 509th", x.count(0, 0), 126);
        check.is("the 510th", x.count(0, 4), 126);
        check.is("the 511th", x.column(0), 126);
        check.is("the 512th", x.poll(0, 0), 2);
    }
}
