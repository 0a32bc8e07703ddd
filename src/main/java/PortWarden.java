/** The terminal side of a small machine; ../shared/DOC.md says what each call promises. */
public final class PortWarden {
    public static final int NONE = -1;
    public static final int WAIT = -2, END = -3, ERROR = -4, STOPPED = -5;

    private static final int PORTS = 4;
    private static final int PROCESSES = 8;
    private static final int GROUPS = 8;

    private static final int RECEIVER_ROOM = 8;
    private static final int STORE_ROOM = 64;
    private static final int OUTPUT_ROOM = 64;
    private static final int SENDER_ROOM = 8;
    private static final int WAITING_ROOM = 3;
    // The longest echo is a reprint: a form, a return, a newline, and 65 forms of two bytes.
    private static final int DRAFT_ROOM = 2 + 2 + 2 * (STORE_ROOM + 1);

    private static final int CROWDED_ABOVE = 48;
    private static final int RELAXED_UP_TO = 16;
    private static final int POLL_FREE = 8;

    private static final int CANON = 0;
    private static final int ECHO = 1;
    private static final int SIGNALS = 2;
    private static final int MAPS = 3;
    private static final int HEEDS = 4;
    private static final int ANY = 5;
    private static final int SENDS = 6;
    private static final int EXPANDS = 7;
    private static final int TABS = 8;
    private static final int KEEPS = 9;
    private static final int STOPS = 10;
    private static final int BAD_AS_ZERO = 11;
    private static final int LEAST = 12;
    private static final int TIME = 13;
    private static final int ERASE = 14;
    private static final int WORD = 15;
    private static final int KILL = 16;
    private static final int LITERAL = 17;
    private static final int REPRINT = 18;
    private static final int END_OF_INPUT = 19;
    private static final int INTERRUPT = 20;
    private static final int QUIT = 21;
    private static final int SUSPEND = 22;
    private static final int START = 23;
    private static final int STOP = 24;
    private static final int MODES = 25;

    private static final int[] FIRST_VALUES = {
        1, 1, 1, 1, 1, 0, 0, 1, 0, 0, 0, 0, 1, 0,
        127, 23, 21, 22, 18, 4, 3, 28, 26, 17, 19
    };
    private static final int MOST_LEAST = 32;
    private static final int MOST_TIME = 20;
    private static final int NO_BYTE = 256;
    // Stands in the store beside the bytes 0 .. 255, so it must be none of them.
    private static final int END_MARK = 256;

    private static final int BREAK_FLAG = 2;
    private static final int ALL_FLAGS = 3;

    private static final int AT_ONCE = 0;
    private static final int TAKING_STORE = 2;

    private static final int SIGNAL_INTERRUPT = 1;
    private static final int SIGNAL_QUIT = 2;
    private static final int SIGNAL_SUSPEND = 4;
    private static final int SIGNAL_HANG_UP = 8;
    private static final int SIGNAL_READER = 16;
    private static final int SIGNAL_WRITER = 32;

    private static final int TOOK = 0;
    private static final int OVERRUNS = 1;
    private static final int DROPPED = 2;
    private static final int ECHOED = 3;
    private static final int TRANSMITTED = 4;
    private static final int COUNTERS = 5;

    private static final int BACKSPACE = 8;
    private static final int TAB = 9;
    private static final int NEWLINE = 10;
    private static final int RETURN = 13;
    private static final int BLANK = 32;
    private static final int CARET = 94;
    private static final int DELETE = 127;
    private static final int TAB_WIDTH = 8;

    private final Crew crew;
    private final Port[] ports;

    public PortWarden() {
        crew = new Crew();
        ports = new Port[PORTS];
        for (int i = 0; i < PORTS; i++) {
            ports[i] = new Port(crew);
        }
    }

    public boolean receive(int port, int b, int flags) {
        if (!isPort(port) || !isByte(b) || flags < 0 || flags > ALL_FLAGS) {
            return false;
        }
        return ports[port].takeFromLine(b, flags);
    }

    public int transmit(int port) {
        if (!isPort(port)) {
            return NONE;
        }
        Port line = ports[port];
        line.output.push();
        int b = line.giveToLine();
        line.settle();
        return b;
    }

    public int held(int port) {
        if (!isPort(port)) {
            return NONE;
        }
        Port line = ports[port];
        Output output = line.output;
        if (line.urgentByte() != NO_BYTE) {
            return 0;
        }
        if (output.size() == 0) {
            return 1;
        }
        if (output.heldBack) {
            return 2;
        }
        return output.clearToSend ? 0 : 3;
    }

    public boolean carrier(int port, boolean on) {
        if (!isPort(port)) {
            return false;
        }
        Port line = ports[port];
        boolean goesOff = line.carrierOn && !on;
        line.carrierOn = on;
        if (goesOff) {
            line.hangUp();
        }
        return true;
    }

    public boolean clear(int port, boolean on) {
        if (!isPort(port)) {
            return false;
        }
        ports[port].output.clearToSend = on;
        return true;
    }

    public boolean open(int process, int port) {
        if (!isProcess(process) || !isPort(port)) {
            return false;
        }
        return ports[port].openFor(process);
    }

    public boolean close(int process, int port) {
        if (!isProcess(process) || !isPort(port)) {
            return false;
        }
        boolean wasOpen = ports[port].opened[process];
        ports[port].opened[process] = false;
        return wasOpen;
    }

    public boolean join(int process, int group) {
        if (!isProcess(process) || !isGroup(group)) {
            return false;
        }
        crew.groupOf[process] = group;
        return true;
    }

    public boolean foreground(int port, int group) {
        if (!isPort(port) || !isGroup(group) && group != NONE) {
            return false;
        }
        ports[port].foregroundGroup = group;
        return true;
    }

    public int write(int process, int port, int b) {
        if (!isProcess(process) || !isPort(port) || !isByte(b)) {
            return NONE;
        }
        Port line = ports[port];
        if (!line.opened[process] || line.hungUp) {
            return ERROR;
        }
        if (line.isOn(STOPS) && line.isBackground(process)) {
            crew.raise(crew.groupOf[process], SIGNAL_WRITER);
            return STOPPED;
        }
        line.expand(b);
        if (!line.output.accept(line.draft)) {
            return WAIT;
        }
        line.output.push();
        return 1;
    }

    public int read(int process, int port) {
        if (!isProcess(process) || !isPort(port)) {
            return NONE;
        }
        Port line = ports[port];
        line.pass();
        if (!line.opened[process]) {
            return ERROR;
        }
        if (line.isBackground(process)) {
            crew.raise(crew.groupOf[process], SIGNAL_READER);
            return STOPPED;
        }
        if (line.store.released > 0) {
            return line.takeEntry();
        }
        return line.hungUp ? END : WAIT;
    }

    public boolean mode(int port, int which, int value, int when) {
        if (!isPort(port) || !isMode(which) || value < 0 || value > mostOf(which)
                || when < AT_ONCE || when > TAKING_STORE) {
            return false;
        }
        if (when == AT_ONCE) {
            ports[port].setMode(which, value);
            return true;
        }
        return ports[port].changeLater(which, value, when == TAKING_STORE);
    }

    public int modeOf(int port, int which) {
        return isPort(port) && isMode(which) ? ports[port].modes[which] : NONE;
    }

    public int poll(int process, int port) {
        if (!isProcess(process) || !isPort(port)) {
            return NONE;
        }
        Port line = ports[port];
        line.pass();
        int answer = line.readingWaits(process) ? 0 : 1;
        answer += line.output.stored.fits(POLL_FREE) ? 2 : 0;
        return answer + (line.hungUp ? 4 : 0);
    }

    public int signals(int process) {
        if (!isProcess(process)) {
            return NONE;
        }
        int raised = crew.raised[process];
        crew.raised[process] = 0;
        return raised;
    }

    public int count(int port, int what) {
        return isPort(port) && what >= 0 && what < COUNTERS ? ports[port].counts[what] : NONE;
    }

    public int column(int port) {
        return isPort(port) ? ports[port].output.columnNow : NONE;
    }

    public boolean flush(int port, int which) {
        if (!isPort(port) || which < 0 || which > 2) {
            return false;
        }
        if (which != 1) {
            ports[port].emptyStore();
        }
        if (which != 0) {
            ports[port].emptyOutput();
        }
        return true;
    }

    public int ready(int port) {
        return isPort(port) ? ports[port].store.released : NONE;
    }

    public void tick() {
        for (int i = 0; i < PORTS; i++) {
            ports[i].pass();
            ports[i].letTimePass();
            ports[i].settle();
        }
    }

    private static boolean isPort(int port) {
        return port >= 0 && port < PORTS;
    }

    private static boolean isProcess(int process) {
        return process >= 0 && process < PROCESSES;
    }

    private static boolean isGroup(int group) {
        return group >= 0 && group < GROUPS;
    }

    private static boolean isMode(int which) {
        return which >= 0 && which < MODES;
    }

    private static boolean isByte(int b) {
        return b >= 0 && b <= 255;
    }

    private static int mostOf(int which) {
        if (which < LEAST) {
            return 1;
        }
        if (which == LEAST) {
            return MOST_LEAST;
        }
        return which == TIME ? MOST_TIME : NO_BYTE;
    }

    /** Numbers in the order in which they came, with a room that is made once. */
    private static final class Row {
        private final int[] cells;
        private int first;
        private int size;

        Row(int room) {
            cells = new int[room];
        }

        boolean fits(int more) {
            return more <= cells.length - size;
        }

        void add(int value) {
            if (size < cells.length) {
                int place = first + size;
                cells[place < cells.length ? place : place - cells.length] = value;
                size++;
            }
        }

        int at(int index) {
            if (index < 0 || index >= size) {
                return NONE;
            }
            int place = first + index;
            return cells[place < cells.length ? place : place - cells.length];
        }

        int takeFirst() {
            if (size == 0) {
                return NONE;
            }
            int value = cells[first];
            first = first + 1 < cells.length ? first + 1 : 0;
            size--;
            return value;
        }

        int takeLast() {
            int value = at(size - 1);
            if (size > 0) {
                size--;
            }
            return value;
        }

        void empty() {
            size = 0;
        }
    }

    /** The processes: the group and the raised signals of each. */
    private static final class Crew {
        private final int[] groupOf = new int[PROCESSES];
        private final int[] raised = new int[PROCESSES];

        Crew() {
            for (int i = 0; i < PROCESSES; i++) {
                groupOf[i] = i;
            }
        }

        // No process is of the group NONE, so a port without a foreground group raises nothing.
        void raise(int group, int signal) {
            for (int i = 0; i < PROCESSES; i++) {
                if (groupOf[i] == group) {
                    raised[i] |= signal;
                }
            }
        }
    }

    /** What was typed: entries, the first of which are released. */
    private static final class Store {
        // One place more than its room, for the entry that ends a line in a full store.
        private final Row entries = new Row(STORE_ROOM + 1);
        private int released;
        private int idleTicks;

        boolean add(int entry, boolean mayExceed) {
            if (entries.size >= STORE_ROOM && !mayExceed || !entries.fits(1)) {
                return false;
            }
            entries.add(entry);
            idleTicks = 0;
            return true;
        }

        int openLine() {
            return entries.size - released;
        }

        void releaseAll() {
            released = entries.size;
        }

        int takeReleased() {
            if (released > 0) {
                released--;
            }
            return entries.takeFirst();
        }

        void empty() {
            entries.empty();
            released = 0;
        }

        void dropEndMarks() {
            int all = entries.size;
            for (int i = 0; i < all; i++) {
                int entry = entries.takeFirst();
                if (entry != END_MARK) {
                    entries.add(entry);
                }
            }
        }

        /** How many entries at the open line's end are its last word and the blanks behind it. */
        int lastWord() {
            int open = openLine();
            int taken = 0;
            while (taken < open && isBlank(entries.at(entries.size - 1 - taken))) {
                taken++;
            }
            while (taken < open && !isBlank(entries.at(entries.size - 1 - taken))) {
                taken++;
            }
            return taken;
        }

        private static boolean isBlank(int entry) {
            return entry == BLANK || entry == TAB;
        }
    }

    /** What goes out: the output's store, the sender behind it, and what keeps them from going. */
    private static final class Output {
        private final Row stored = new Row(OUTPUT_ROOM);
        private final Row sender = new Row(SENDER_ROOM);
        private int columnNow;
        private boolean heldBack;
        private boolean clearToSend = true;

        int size() {
            return stored.size + sender.size;
        }

        boolean accept(Row draft) {
            if (!stored.fits(draft.size)) {
                return false;
            }
            for (int i = 0; i < draft.size; i++) {
                int b = draft.at(i);
                stored.add(b);
                columnNow = columnBehind(b);
            }
            return true;
        }

        private int columnBehind(int b) {
            if (b == RETURN) {
                return 0;
            }
            if (b == BACKSPACE) {
                return columnNow > 0 ? columnNow - 1 : 0;
            }
            if (b == TAB) {
                return (columnNow / TAB_WIDTH + 1) * TAB_WIDTH;
            }
            return b >= BLANK && b != DELETE ? columnNow + 1 : columnNow;
        }

        int blanksOfTab() {
            return TAB_WIDTH - columnNow % TAB_WIDTH;
        }

        void push() {
            for (int i = 0; i < SENDER_ROOM && sender.fits(1) && stored.size > 0; i++) {
                sender.add(stored.takeFirst());
            }
        }

        int takeFromSender() {
            return heldBack || !clearToSend ? NONE : sender.takeFirst();
        }
    }

    /** Changes of mode that wait, the first told first, each behind so many bytes of the output. */
    private static final class Waiting {
        private final int[] which = new int[WAITING_ROOM];
        private final int[] value = new int[WAITING_ROOM];
        private final boolean[] takesStore = new boolean[WAITING_ROOM];
        private final int[] behind = new int[WAITING_ROOM];
        private int size;

        boolean add(int mode, int newValue, boolean takes, int bytes) {
            if (size >= WAITING_ROOM) {
                return false;
            }
            which[size] = mode;
            value[size] = newValue;
            takesStore[size] = takes;
            behind[size] = bytes;
            size++;
            return true;
        }

        boolean isFirstDue() {
            return size > 0 && behind[0] == 0;
        }

        void removeFirst() {
            for (int i = 1; i < size; i++) {
                which[i - 1] = which[i];
                value[i - 1] = value[i];
                takesStore[i - 1] = takesStore[i];
                behind[i - 1] = behind[i];
            }
            size = Math.max(0, size - 1);
        }

        void byteHasGone() {
            for (int i = 0; i < size; i++) {
                behind[i] = Math.max(0, behind[i] - 1);
            }
        }

        // Bytes are taken away from the output's end, so those that wait behind more wait for the rest.
        void onlyLeft(int bytes) {
            for (int i = 0; i < size; i++) {
                behind[i] = Math.min(behind[i], bytes);
            }
        }
    }

    /** One line with its modes, its receiver and its discipline. */
    private static final class Port {
        private final Crew crew;
        private final int[] modes = FIRST_VALUES.clone();
        private final Row receiver = new Row(RECEIVER_ROOM);
        private final Store store = new Store();
        private final Output output = new Output();
        private final Waiting waiting = new Waiting();
        private final Row draft = new Row(DRAFT_ROOM);
        private final boolean[] opened = new boolean[PROCESSES];
        private final int[] counts = new int[COUNTERS];
        private boolean literalNext;
        private boolean carrierOn = true;
        private boolean hungUp;
        private int foregroundGroup = NONE;
        // STOP was told, and START not since.
        private boolean crowded;
        // The mode (STOP or START) whose byte goes ahead of all others.
        private int urgent = NONE;

        Port(Crew processes) {
            crew = processes;
        }

        boolean isOn(int which) {
            return modes[which] == 1;
        }

        boolean takeFromLine(int b, int flags) {
            if (!receiver.fits(1)) {
                counts[OVERRUNS]++;
                return false;
            }
            receiver.add(flags << 8 | b);
            counts[TOOK]++;
            return true;
        }

        int urgentByte() {
            return urgent == NONE ? NO_BYTE : modes[urgent];
        }

        int giveToLine() {
            int b = urgentByte();
            urgent = NONE;
            if (b == NO_BYTE) {
                b = output.takeFromSender();
                if (b == NONE) {
                    return NONE;
                }
                waiting.byteHasGone();
            }
            counts[TRANSMITTED]++;
            return b;
        }

        void settle() {
            output.push();
            makeDueChanges();
        }

        void hangUp() {
            hungUp = true;
            crew.raise(foregroundGroup, SIGNAL_HANG_UP);
            emptyOutput();
        }

        boolean openFor(int process) {
            if (!carrierOn || opened[process] && !hungUp) {
                return false;
            }
            if (hungUp) {
                for (int i = 0; i < PROCESSES; i++) {
                    opened[i] = false;
                }
            }
            hungUp = false;
            opened[process] = true;
            return true;
        }

        boolean isBackground(int process) {
            return foregroundGroup != NONE && crew.groupOf[process] != foregroundGroup;
        }

        boolean readingWaits(int process) {
            return opened[process] && !isBackground(process) && store.released == 0 && !hungUp;
        }

        int takeEntry() {
            int entry = store.takeReleased();
            relax();
            return entry == END_MARK ? END : entry;
        }

        void emptyStore() {
            store.empty();
            relax();
        }

        void emptyOutput() {
            output.stored.empty();
            output.sender.empty();
            waiting.onlyLeft(0);
            makeDueChanges();
        }

        private void relax() {
            if (crowded && store.entries.size <= RELAXED_UP_TO) {
                crowded = false;
                urgent = START;
            }
        }

        boolean changeLater(int which, int value, boolean takesStore) {
            if (!waiting.add(which, value, takesStore, output.size())) {
                return false;
            }
            makeDueChanges();
            return true;
        }

        private void makeDueChanges() {
            for (int i = 0; i < WAITING_ROOM && waiting.isFirstDue(); i++) {
                if (waiting.takesStore[0]) {
                    emptyStore();
                }
                setMode(waiting.which[0], waiting.value[0]);
                waiting.removeFirst();
            }
        }

        void setMode(int which, int value) {
            modes[which] = value;
            if (which == CANON && value == 0) {
                store.dropEndMarks();
                store.releaseAll();
                relax();
            }
            if (which == LEAST) {
                releaseIfEnough();
            }
        }

        private void releaseIfEnough() {
            if (!isOn(CANON) && store.entries.size >= Math.max(1, modes[LEAST])) {
                store.releaseAll();
            }
        }

        void letTimePass() {
            store.idleTicks++;
            if (!isOn(CANON) && modes[TIME] > 0 && store.idleTicks >= modes[TIME]) {
                store.releaseAll();
            }
        }

        void expand(int b) {
            if (b == NEWLINE && isOn(EXPANDS)) {
                draftNewline();
                return;
            }
            boolean isBlanks = b == TAB && isOn(TABS);
            int bytes = isBlanks ? output.blanksOfTab() : 1;
            draft.empty();
            for (int i = 0; i < bytes; i++) {
                draft.add(isBlanks ? BLANK : b);
            }
        }

        void pass() {
            for (int i = 0; i < RECEIVER_ROOM && receiver.size > 0; i++) {
                int item = receiver.takeFirst();
                int b = item & 255;
                int flags = item >> 8;
                if (flags != 0) {
                    takeFlagged((flags & BREAK_FLAG) != 0);
                } else if (literalNext) {
                    literalNext = false;
                    keepAndEcho(b);
                } else if (!settledAsFlow(b) && !settledAsSignal(b)) {
                    edit(b == RETURN && isOn(MAPS) ? NEWLINE : b);
                }
            }
        }

        private void takeFlagged(boolean isBreak) {
            if (isBreak && isOn(SIGNALS)) {
                signal(SIGNAL_INTERRUPT, modes[INTERRUPT]);
            } else if (isBreak || isOn(BAD_AS_ZERO)) {
                literalNext = false;
                keepAndEcho(0);
            } else {
                counts[DROPPED]++;
            }
        }

        private boolean settledAsFlow(int b) {
            if (!isOn(HEEDS)) {
                return false;
            }
            if (b == modes[STOP]) {
                output.heldBack = true;
                return true;
            }
            if (b == modes[START]) {
                output.heldBack = false;
                return true;
            }
            if (isOn(ANY)) {
                output.heldBack = false;
            }
            return false;
        }

        private boolean settledAsSignal(int b) {
            if (!isOn(SIGNALS)) {
                return false;
            }
            if (b == modes[INTERRUPT]) {
                signal(SIGNAL_INTERRUPT, b);
            } else if (b == modes[QUIT]) {
                signal(SIGNAL_QUIT, b);
            } else if (b == modes[SUSPEND]) {
                signal(SIGNAL_SUSPEND, b);
            } else {
                return false;
            }
            return true;
        }

        // A break may come while INTERRUPT has no byte: then there is nothing to echo.
        private void signal(int raised, int b) {
            crew.raise(foregroundGroup, raised);
            if (!isOn(KEEPS)) {
                emptyStore();
                if (raised != SIGNAL_SUSPEND) {
                    output.stored.empty();
                    waiting.onlyLeft(output.sender.size);
                }
            }
            if (b != NO_BYTE) {
                draftForm(b);
                echo();
            }
        }

        private void edit(int b) {
            if (!isOn(CANON)) {
                keepAndEcho(b);
            } else if (b == modes[ERASE]) {
                takeAway(Math.min(1, store.openLine()));
            } else if (b == modes[WORD]) {
                takeAway(store.lastWord());
            } else if (b == modes[KILL]) {
                takeAway(store.openLine());
            } else if (b == modes[LITERAL]) {
                literalNext = true;
            } else if (b == modes[REPRINT]) {
                reprint(b);
            } else if (b == modes[END_OF_INPUT]) {
                endLine(END_MARK);
            } else if (b == NEWLINE) {
                if (endLine(NEWLINE)) {
                    draftNewline();
                    echo();
                }
            } else {
                keepAndEcho(b);
            }
        }

        private void keepAndEcho(int b) {
            if (keep(b)) {
                draftForm(b);
                echo();
            }
        }

        private boolean endLine(int entry) {
            boolean kept = keep(entry);
            if (kept) {
                store.releaseAll();
            }
            return kept;
        }

        private boolean keep(int entry) {
            boolean mayExceed = isOn(CANON) && (entry == NEWLINE || entry == END_MARK);
            if (!store.add(entry, mayExceed)) {
                counts[DROPPED]++;
                return false;
            }
            releaseIfEnough();
            if (isOn(SENDS) && !crowded && store.entries.size > CROWDED_ABOVE) {
                crowded = true;
                urgent = STOP;
            }
            return true;
        }

        private void takeAway(int entries) {
            for (int i = 0; i < entries; i++) {
                draft.empty();
                int bytes = isPlain(store.entries.takeLast()) ? 1 : 2;
                for (int j = 0; j < bytes; j++) {
                    draft.add(BACKSPACE);
                    draft.add(BLANK);
                    draft.add(BACKSPACE);
                }
                echo();
            }
            relax();
        }

        private void reprint(int b) {
            draftForm(b);
            draft.add(RETURN);
            draft.add(NEWLINE);
            for (int i = store.released; i < store.entries.size; i++) {
                addForm(store.entries.at(i));
            }
            echo();
        }

        private void draftForm(int b) {
            draft.empty();
            addForm(b);
        }

        private void draftNewline() {
            draft.empty();
            draft.add(RETURN);
            draft.add(NEWLINE);
        }

        private void addForm(int b) {
            if (isPlain(b)) {
                draft.add(b);
            } else {
                draft.add(CARET);
                draft.add(b == DELETE ? 63 : b + 64);
            }
        }

        private static boolean isPlain(int b) {
            return b >= BLANK && b != DELETE;
        }

        private void echo() {
            if (isOn(ECHO) && output.accept(draft)) {
                counts[ECHOED] += draft.size;
            }
        }
    }
}
