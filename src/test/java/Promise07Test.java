/** open. */
public final class Promise07Test {
    public static void main(String[] args) {
        Check check = new Check("Promise07Test");
        ordinary(check);
        hungUp(check);
        wrongNumbers(check);
        check.finish();
    }

    private static void ordinary(Check check) {
        PortWarden x = new PortWarden();
        check.is("open", x.open(2, 1), true);
        check.is("twice", x.open(2, 1), false);
        check.is("another process", x.open(3, 1), true);
        check.is("another port", x.open(2, 0), true);
        check.is("the first has it still", x.write(2, 1, 'a'), 1);
        check.is("the second too", x.write(3, 1, 'a'), 1);
        check.is("a third hasn't", x.write(4, 1, 'a'), PortWarden.ERROR);
        check.is("a port that was not opened", x.write(2, 2, 'a'), PortWarden.ERROR);
        x.close(2, 1);
        check.is("again once closed", x.open(2, 1), true);
    }

    private static void hungUp(Check check) {
        PortWarden x = new PortWarden();
        x.open(0, 0);
        x.open(1, 0);
        x.open(1, 1);
        x.carrier(0, false);
        check.is("no carrier", x.open(2, 0), false);
        check.is("no carrier, has it open", x.open(0, 0), false);
        check.is("those who have it keep it", x.read(1, 0), PortWarden.END);
        x.carrier(0, true);
        check.is("has it open, but it is hung up", x.open(0, 0), true);
        check.is("it is not hung up any more", x.write(0, 0, 'a'), 1);
        check.is("the other has it no more", x.read(1, 0), PortWarden.ERROR);
        check.is("but keeps other ports", x.read(1, 1), PortWarden.WAIT);
        check.is("and may open it", x.open(1, 0), true);
        check.is("which takes it from nobody", x.read(0, 0), PortWarden.WAIT);
        check.is("now it is open again", x.open(0, 0), false);
        x.open(7, 0);
        x.carrier(0, false);
        x.close(1, 0);
        x.carrier(0, true);
        check.is("by a process that hadn't it", x.open(5, 0), true);
        check.is("all others have it no more", x.close(0, 0), false);
        check.is("all of them", x.close(7, 0), false);
        check.is("it has it", x.close(5, 0), true);
    }

    private static void wrongNumbers(Check check) {
        PortWarden x = new PortWarden();
        check.is("process -1", x.open(-1, 0), false);
        check.is("process 8", x.open(8, 0), false);
        check.is("port -1", x.open(0, -1), false);
        check.is("port 4", x.open(0, 4), false);
        check.is("process 7, port 3", x.open(7, 3), true);
    }
}
