import java.util.ArrayDeque;
import java.util.ArrayList;
import java.util.Arrays;
import java.util.Deque;
import java.util.Iterator;
import java.util.List;

/**
 * The document once more, told as plainly as the Java library allows and with nothing saved: every byte of the output
 * is an object of its own, a change of mode holds the very bytes that it waits for, and every entry knows for itself
 * whether it is released. It shares no code and no bookkeeping with the program that it is compared with.
 */
final class Model {
    private static final int NONE = -1, WAIT = -2, END = -3, ERROR = -4, STOPPED = -5;

    private static final class Sent {
        final int b;

        Sent(int b) {
            this.b = b;
        }
    }

    private static final class Entry {
        final int b;
        final boolean endMark;
        boolean released;

        Entry(int b, boolean endMark) {
            this.b = b;
            this.endMark = endMark;
        }
    }

    private static final class Change {
        int which;
        int value;
        boolean takesStore;
        final List<Sent> behind = new ArrayList<>();
    }

    private static final class Line {
        final int[] mode = {1, 1, 1, 1, 1, 0, 0, 1, 0, 0, 0, 0, 1, 0, 127, 23, 21, 22, 18, 4, 3, 28, 26, 17, 19};
        final Deque<int[]> receiver = new ArrayDeque<>();
        final List<Entry> store = new ArrayList<>();
        final Deque<Sent> outputStore = new ArrayDeque<>();
        final Deque<Sent> sender = new ArrayDeque<>();
        final List<Change> waiting = new ArrayList<>();
        final boolean[] open = new boolean[8];
        final int[] count = new int[5];
        int foreground = NONE;
        boolean carrier = true;
        boolean clear = true;
        boolean hungUp;
        boolean held;
        boolean literal;
        boolean stopTold;
        boolean stopIsToGo;
        boolean startIsToGo;
        int column;
        int ticksSinceEntry;
    }

    private final Line[] lines = {new Line(), new Line(), new Line(), new Line()};
    private final int[] group = {0, 1, 2, 3, 4, 5, 6, 7};
    private final int[] raised = new int[8];

    boolean receive(int port, int b, int flags) {
        if (out(port, 3) || out(b, 255) || out(flags, 3)) {
            return false;
        }
        Line l = lines[port];
        if (l.receiver.size() == 8) {
            l.count[1]++;
            return false;
        }
        l.receiver.addLast(new int[] {b, flags});
        l.count[0]++;
        return true;
    }

    int transmit(int port) {
        if (out(port, 3)) {
            return NONE;
        }
        Line l = lines[port];
        push(l);
        int answer = NONE;
        if (l.stopIsToGo && l.mode[24] != 256) {
            answer = l.mode[24];
        } else if (l.startIsToGo && l.mode[23] != 256) {
            answer = l.mode[23];
        } else if (!l.held && l.clear && !l.sender.isEmpty()) {
            answer = l.sender.removeFirst().b;
        }
        l.stopIsToGo = false;
        l.startIsToGo = false;
        if (answer != NONE) {
            l.count[4]++;
        }
        push(l);
        makeChanges(l);
        return answer;
    }

    int held(int port) {
        if (out(port, 3)) {
            return NONE;
        }
        Line l = lines[port];
        if (l.stopIsToGo && l.mode[24] != 256 || l.startIsToGo && l.mode[23] != 256) {
            return 0;
        }
        if (l.outputStore.isEmpty() && l.sender.isEmpty()) {
            return 1;
        }
        return l.held ? 2 : l.clear ? 0 : 3;
    }

    boolean carrier(int port, boolean on) {
        if (out(port, 3)) {
            return false;
        }
        Line l = lines[port];
        if (l.carrier && !on) {
            l.hungUp = true;
            raise(l.foreground, 8);
            l.outputStore.clear();
            l.sender.clear();
            makeChanges(l);
        }
        l.carrier = on;
        return true;
    }

    boolean clear(int port, boolean on) {
        if (out(port, 3)) {
            return false;
        }
        lines[port].clear = on;
        return true;
    }

    boolean open(int process, int port) {
        if (out(process, 7) || out(port, 3)) {
            return false;
        }
        Line l = lines[port];
        if (!l.carrier || l.open[process] && !l.hungUp) {
            return false;
        }
        if (l.hungUp) {
            Arrays.fill(l.open, false);
        }
        l.hungUp = false;
        l.open[process] = true;
        return true;
    }

    boolean close(int process, int port) {
        if (out(process, 7) || out(port, 3) || !lines[port].open[process]) {
            return false;
        }
        lines[port].open[process] = false;
        return true;
    }

    boolean join(int process, int to) {
        if (out(process, 7) || out(to, 7)) {
            return false;
        }
        group[process] = to;
        return true;
    }

    boolean foreground(int port, int to) {
        if (out(port, 3) || to != NONE && out(to, 7)) {
            return false;
        }
        lines[port].foreground = to;
        return true;
    }

    int write(int process, int port, int b) {
        if (out(process, 7) || out(port, 3) || out(b, 255)) {
            return NONE;
        }
        Line l = lines[port];
        if (!l.open[process] || l.hungUp) {
            return ERROR;
        }
        if (l.foreground != NONE && group[process] != l.foreground && l.mode[10] == 1) {
            raise(group[process], 32);
            return STOPPED;
        }
        List<Integer> bytes = new ArrayList<>();
        if (b == 10 && l.mode[7] == 1) {
            bytes.add(13);
            bytes.add(10);
        } else if (b == 9 && l.mode[8] == 1) {
            for (int column = l.column; column == l.column || column % 8 != 0; column++) {
                bytes.add(32);
            }
        } else {
            bytes.add(b);
        }
        if (l.outputStore.size() + bytes.size() > 64) {
            return WAIT;
        }
        toOutput(l, bytes);
        push(l);
        return 1;
    }

    int read(int process, int port) {
        if (out(process, 7) || out(port, 3)) {
            return NONE;
        }
        Line l = lines[port];
        pass(l);
        int due = reading(l, process);
        if (due == STOPPED) {
            raise(group[process], 16);
        }
        if (due != ERROR && due != STOPPED && firstIsReleased(l)) {
            l.store.remove(0);
            storeShrank(l);
        }
        return due;
    }

    boolean mode(int port, int which, int value, int when) {
        if (out(port, 3) || out(which, 24) || out(when, 2)) {
            return false;
        }
        if (out(value, which <= 11 ? 1 : which == 12 ? 32 : which == 13 ? 20 : 256)) {
            return false;
        }
        Line l = lines[port];
        if (when == 0) {
            set(l, which, value);
            return true;
        }
        if (l.waiting.size() == 3) {
            return false;
        }
        Change change = new Change();
        change.which = which;
        change.value = value;
        change.takesStore = when == 2;
        change.behind.addAll(l.outputStore);
        change.behind.addAll(l.sender);
        l.waiting.add(change);
        makeChanges(l);
        return true;
    }

    int modeOf(int port, int which) {
        return out(port, 3) || out(which, 24) ? NONE : lines[port].mode[which];
    }

    int poll(int process, int port) {
        if (out(process, 7) || out(port, 3)) {
            return NONE;
        }
        Line l = lines[port];
        pass(l);
        return (reading(l, process) != WAIT ? 1 : 0) | (64 - l.outputStore.size() >= 8 ? 2 : 0) | (l.hungUp ? 4 : 0);
    }

    int signals(int process) {
        if (out(process, 7)) {
            return NONE;
        }
        int answer = raised[process];
        raised[process] = 0;
        return answer;
    }

    int count(int port, int what) {
        return out(port, 3) || out(what, 4) ? NONE : lines[port].count[what];
    }

    int column(int port) {
        return out(port, 3) ? NONE : lines[port].column;
    }

    boolean flush(int port, int which) {
        if (out(port, 3) || out(which, 2)) {
            return false;
        }
        Line l = lines[port];
        if (which == 0 || which == 2) {
            l.store.clear();
            storeShrank(l);
        }
        if (which == 1 || which == 2) {
            l.outputStore.clear();
            l.sender.clear();
            makeChanges(l);
        }
        return true;
    }

    int ready(int port) {
        return out(port, 3) ? NONE : (int) lines[port].store.stream().filter(e -> e.released).count();
    }

    void tick() {
        for (Line l : lines) {
            pass(l);
            l.ticksSinceEntry++;
            if (l.mode[0] == 0 && l.mode[13] > 0 && l.ticksSinceEntry >= l.mode[13]) {
                releaseAll(l);
            }
            push(l);
            makeChanges(l);
        }
    }

    private static boolean out(int number, int most) {
        return number < 0 || number > most;
    }

    private void raise(int ofGroup, int signal) {
        for (int process = 0; process < 8; process++) {
            if (ofGroup != NONE && group[process] == ofGroup) {
                raised[process] |= signal;
            }
        }
    }

    private static boolean firstIsReleased(Line l) {
        return !l.store.isEmpty() && l.store.get(0).released;
    }

    private int reading(Line l, int process) {
        if (!l.open[process]) {
            return ERROR;
        }
        if (l.foreground != NONE && l.foreground != group[process]) {
            return STOPPED;
        }
        if (firstIsReleased(l)) {
            return l.store.get(0).endMark ? END : l.store.get(0).b;
        }
        return l.hungUp ? END : WAIT;
    }

    private static void push(Line l) {
        while (l.sender.size() < 8 && !l.outputStore.isEmpty()) {
            l.sender.addLast(l.outputStore.removeFirst());
        }
    }

    private static void toOutput(Line l, List<Integer> bytes) {
        for (int b : bytes) {
            l.outputStore.addLast(new Sent(b));
            if (b == 13) {
                l.column = 0;
            } else if (b == 8) {
                l.column = Math.max(0, l.column - 1);
            } else if (b == 9) {
                do {
                    l.column++;
                } while (l.column % 8 != 0);
            } else if (b >= 32 && b != 127) {
                l.column++;
            }
        }
    }

    private static void releaseAll(Line l) {
        for (Entry e : l.store) {
            e.released = true;
        }
    }

    private static void releaseIfEnough(Line l) {
        if (l.mode[0] == 0 && !l.store.isEmpty() && l.store.size() >= l.mode[12]) {
            releaseAll(l);
        }
    }

    private static void storeShrank(Line l) {
        if (l.stopTold && l.store.size() <= 16) {
            l.stopTold = false;
            l.stopIsToGo = false;
            l.startIsToGo = true;
        }
    }

    private static void set(Line l, int which, int value) {
        l.mode[which] = value;
        if (which == 0 && value == 0) {
            l.store.removeIf(e -> e.endMark);
            releaseAll(l);
            storeShrank(l);
        }
        releaseIfEnough(l);
    }

    private static void makeChanges(Line l) {
        for (Iterator<Change> i = l.waiting.iterator(); i.hasNext(); i.remove()) {
            Change change = i.next();
            change.behind.removeIf(sent -> !l.outputStore.contains(sent) && !l.sender.contains(sent));
            if (!change.behind.isEmpty()) {
                return;
            }
            if (change.takesStore) {
                l.store.clear();
                storeShrank(l);
            }
            set(l, change.which, change.value);
        }
    }

    private void pass(Line l) {
        while (!l.receiver.isEmpty()) {
            int[] came = l.receiver.removeFirst();
            boolean isBreak = came[1] >= 2;
            boolean isBad = came[1] == 1;
            if (isBreak && l.mode[2] == 1) {
                signal(l, 1, l.mode[20]);
            } else if (isBad && l.mode[11] == 0) {
                l.count[2]++;
            } else if (isBreak || isBad) {
                l.literal = false;
                storeAndEcho(l, 0);
            } else if (l.literal) {
                l.literal = false;
                storeAndEcho(l, came[0]);
            } else {
                flow(l, came[0]);
            }
        }
    }

    private void flow(Line l, int b) {
        if (l.mode[4] == 1 && b == l.mode[24]) {
            l.held = true;
        } else if (l.mode[4] == 1 && b == l.mode[23]) {
            l.held = false;
        } else {
            if (l.mode[4] == 1 && l.mode[5] == 1) {
                l.held = false;
            }
            signalOrByte(l, b);
        }
    }

    private void signalOrByte(Line l, int b) {
        for (int i = 0; i < 3; i++) {
            if (l.mode[2] == 1 && b == l.mode[20 + i]) {
                signal(l, 1 << i, b);
                return;
            }
        }
        int mapped = b == 13 && l.mode[3] == 1 ? 10 : b;
        if (l.mode[0] == 1) {
            edit(l, mapped);
        } else {
            storeAndEcho(l, mapped);
        }
    }

    private void signal(Line l, int signal, int b) {
        raise(l.foreground, signal);
        if (l.mode[9] == 0) {
            l.store.clear();
            storeShrank(l);
            if (signal != 4) {
                l.outputStore.clear();
            }
        }
        if (b != 256) {
            echo(l, form(b));
        }
    }

    private static void edit(Line l, int b) {
        if (b == l.mode[14]) {
            eraseLast(l);
        } else if (b == l.mode[15]) {
            while (lastIs(l, true)) {
                eraseLast(l);
            }
            while (lastIs(l, false)) {
                eraseLast(l);
            }
        } else if (b == l.mode[16]) {
            while (lastIs(l, true) || lastIs(l, false)) {
                eraseLast(l);
            }
        } else if (b == l.mode[17]) {
            l.literal = true;
        } else if (b == l.mode[18]) {
            List<Integer> shown = form(b);
            shown.addAll(List.of(13, 10));
            for (Entry e : l.store) {
                if (!e.released) {
                    shown.addAll(form(e.b));
                }
            }
            echo(l, shown);
        } else if (b == l.mode[19]) {
            if (store(l, 0, true)) {
                releaseAll(l);
            }
        } else if (b == 10) {
            if (store(l, 10, false)) {
                releaseAll(l);
                echo(l, new ArrayList<>(List.of(13, 10)));
            }
        } else {
            storeAndEcho(l, b);
        }
    }

    private static boolean lastIs(Line l, boolean blank) {
        if (l.store.isEmpty()) {
            return false;
        }
        Entry last = l.store.get(l.store.size() - 1);
        return !last.released && blank == (last.b == 32 || last.b == 9);
    }

    private static void eraseLast(Line l) {
        if (l.store.isEmpty() || l.store.get(l.store.size() - 1).released) {
            return;
        }
        Entry last = l.store.remove(l.store.size() - 1);
        List<Integer> rubs = new ArrayList<>();
        for (int i = 0; i < form(last.b).size(); i++) {
            rubs.addAll(List.of(8, 32, 8));
        }
        echo(l, rubs);
        storeShrank(l);
    }

    private static void storeAndEcho(Line l, int b) {
        if (store(l, b, false)) {
            echo(l, form(b));
        }
    }

    private static boolean store(Line l, int b, boolean endMark) {
        int room = l.mode[0] == 1 && (b == 10 || endMark) ? 65 : 64;
        if (l.store.size() >= room) {
            l.count[2]++;
            return false;
        }
        l.store.add(new Entry(b, endMark));
        l.ticksSinceEntry = 0;
        releaseIfEnough(l);
        if (l.mode[6] == 1 && l.store.size() > 48 && !l.stopTold) {
            l.stopTold = true;
            l.stopIsToGo = true;
            l.startIsToGo = false;
        }
        return true;
    }

    private static List<Integer> form(int b) {
        List<Integer> shown = new ArrayList<>();
        if (b == 127) {
            shown.addAll(List.of(94, 63));
        } else if (b < 32) {
            shown.addAll(List.of(94, b + 64));
        } else {
            shown.add(b);
        }
        return shown;
    }

    private static void echo(Line l, List<Integer> bytes) {
        if (l.mode[1] == 1 && l.outputStore.size() + bytes.size() <= 64) {
            toOutput(l, bytes);
            l.count[3] += bytes.size();
        }
    }
}
