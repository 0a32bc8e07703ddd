import java.util.Arrays;
import java.util.Random;

/** Random runs of at most 512 calls on the program and on the model: every answer must be the same. */
public final class ModelTest {
    private static final int RUNS = 6000;
    private static final int MOST_CALLS = 512;
    private static final int LONGEST_STEP = 60;
    private static final int[] ODD = {-1, -2, 4, 8, 25, 33, 256, 257, Integer.MIN_VALUE, Integer.MAX_VALUE};
    private static final int[] SPECIAL = {
        127, 23, 21, 22, 18, 4, 3, 28, 26, 17, 19, 10, 13, 9, 32, 8, 0, 1, 31, 126, 128, 255
    };

    private final Random random;
    private final PortWarden program = new PortWarden();
    private final Model model = new Model();
    private final StringBuilder told = new StringBuilder();
    private final boolean watched;
    private int calls;
    private String fault;

    private ModelTest(int seed) {
        random = new Random(seed);
        watched = seed % 4 == 0;
    }

    public static void main(String[] args) {
        Check check = new Check("ModelTest");
        for (int seed = 0; seed < RUNS; seed++) {
            check.is("seed " + seed, new ModelTest(seed).play(), "");
        }
        check.finish();
    }

    private String play() {
        fault = "";
        int port = random.nextInt(4);
        begin(port);
        while (calls < MOST_CALLS - LONGEST_STEP && fault.isEmpty()) {
            step(random.nextInt(12) == 0 ? random.nextInt(4) : port);
        }
        for (int what = 0; what < 5 && fault.isEmpty(); what++) {
            same("count", model.count(port, what), program.count(port, what), port, what);
        }
        return fault;
    }

    private void begin(int port) {
        for (int process = 0; process < 2; process++) {
            same("open", model.open(process, port), program.open(process, port), process, port);
        }
        if (random.nextBoolean()) {
            same("foreground", model.foreground(port, 0), program.foreground(port, 0), port, 0);
        }
        for (int which = 0; which < 14; which++) {
            if (random.nextInt(4) == 0) {
                change(port, which, 0);
            }
        }
    }

    private void step(int port) {
        switch (random.nextInt(20)) {
            case 0, 1, 2, 3, 4, 5 -> typing(port);
            case 6, 7 -> writing(port);
            case 8, 9 -> sending(port);
            case 10, 11 -> reading(port);
            case 12 -> change(port, random.nextInt(14), random.nextInt(3));
            case 13 -> change(port, random.nextInt(25), number(3));
            case 14 -> time();
            case 15, 16 -> asking(port);
            case 17 -> modem(port);
            case 18 -> processes(port);
            default -> oddCall();
        }
        if (watched) {
            watch(port);
        }
    }

    private int number(int below) {
        return random.nextInt(60) == 0 ? ODD[random.nextInt(ODD.length)] : random.nextInt(below);
    }

    private int process() {
        return random.nextInt(6) == 0 ? number(8) : random.nextInt(2);
    }

    private int aByte() {
        return switch (random.nextInt(12)) {
            case 0, 1 -> SPECIAL[random.nextInt(SPECIAL.length)];
            case 2 -> number(256);
            default -> "ab \t\001x".charAt(random.nextInt(6));
        };
    }

    private void typing(int port) {
        boolean plain = random.nextInt(3) != 0;
        int times = 1 + random.nextInt(10);
        for (int i = 0; i < times; i++) {
            int b = plain ? 'a' + random.nextInt(26) : aByte();
            int flags = random.nextInt(plain ? 60 : 15) == 0 ? number(4) : 0;
            same("receive", model.receive(port, b, flags), program.receive(port, b, flags), port, b, flags);
        }
        if (random.nextInt(4) != 0) {
            polling(port);
        }
    }

    private void polling(int port) {
        int process = process();
        same("poll", model.poll(process, port), program.poll(process, port), process, port);
    }

    private void writing(int port) {
        int times = 1 + random.nextInt(12);
        for (int i = 0; i < times; i++) {
            int process = process();
            int b = aByte();
            same("write", model.write(process, port, b), program.write(process, port, b), process, port, b);
        }
    }

    private void sending(int port) {
        int times = 1 + random.nextInt(12);
        for (int i = 0; i < times; i++) {
            same("transmit", model.transmit(port), program.transmit(port), port);
        }
    }

    private void reading(int port) {
        int times = 1 + random.nextInt(random.nextInt(3) == 0 ? 50 : 8);
        for (int i = 0; i < times; i++) {
            int process = process();
            same("read", model.read(process, port), program.read(process, port), process, port);
        }
    }

    private void change(int port, int which, int when) {
        int value = which < 12 ? number(2) : which < 14 ? number(random.nextInt(3) == 0 ? 21 : 5)
                : random.nextInt(5) == 0 ? 256 : aByte();
        same("mode", model.mode(port, which, value, when), program.mode(port, which, value, when),
                port, which, value, when);
    }

    private void time() {
        int times = 1 + random.nextInt(3);
        for (int i = 0; i < times; i++) {
            model.tick();
            program.tick();
            same("tick", 0, 0);
        }
    }

    private void asking(int port) {
        int process = process();
        int which = number(25);
        int what = number(5);
        switch (random.nextInt(6)) {
            case 0 -> same("held", model.held(port), program.held(port), port);
            case 1 -> same("signals", model.signals(process), program.signals(process), process);
            case 2 -> same("count", model.count(port, what), program.count(port, what), port, what);
            case 3 -> same("column", model.column(port), program.column(port), port);
            case 4 -> same("ready", model.ready(port), program.ready(port), port);
            default -> same("modeOf", model.modeOf(port, which), program.modeOf(port, which), port, which);
        }
    }

    private void modem(int port) {
        boolean on = random.nextInt(3) != 0;
        int which = number(3);
        int process = process();
        switch (random.nextInt(5)) {
            case 0 -> same("carrier", model.carrier(port, on), program.carrier(port, on), port, on ? 1 : 0);
            case 1, 2 -> same("clear", model.clear(port, on), program.clear(port, on), port, on ? 1 : 0);
            case 3 -> same("flush", model.flush(port, which), program.flush(port, which), port, which);
            default -> same("open", model.open(process, port), program.open(process, port), process, port);
        }
    }

    private void processes(int port) {
        int process = process();
        int group = number(3) - random.nextInt(2);
        switch (random.nextInt(6)) {
            case 0 -> same("close", model.close(process, port), program.close(process, port), process, port);
            case 1 -> same("join", model.join(process, group), program.join(process, group), process, group);
            case 2 -> same("foreground", model.foreground(port, group), program.foreground(port, group), port, group);
            default -> same("open", model.open(process, port), program.open(process, port), process, port);
        }
    }

    private void oddCall() {
        int odd = ODD[random.nextInt(ODD.length)];
        switch (random.nextInt(8)) {
            case 0 -> same("transmit", model.transmit(odd), program.transmit(odd), odd);
            case 1 -> same("carrier", model.carrier(odd, false), program.carrier(odd, false), odd, 0);
            case 2 -> same("flush", model.flush(odd, 2), program.flush(odd, 2), odd, 2);
            case 3 -> same("poll", model.poll(odd, 0), program.poll(odd, 0), odd, 0);
            case 4 -> same("read", model.read(0, odd), program.read(0, odd), 0, odd);
            case 5 -> same("write", model.write(0, odd, 9), program.write(0, odd, 9), 0, odd, 9);
            case 6 -> same("open", model.open(odd, 0), program.open(odd, 0), odd, 0);
            default -> same("clear", model.clear(odd, false), program.clear(odd, false), odd, 0);
        }
    }

    private void watch(int port) {
        same("ready", model.ready(port), program.ready(port), port);
        same("column", model.column(port), program.column(port), port);
        same("held", model.held(port), program.held(port), port);
        for (int what = 2; what < 4; what++) {
            same("count", model.count(port, what), program.count(port, what), port, what);
        }
    }

    private void same(String call, boolean due, boolean got, int... numbers) {
        same(call, due ? 1 : 0, got ? 1 : 0, numbers);
    }

    private void same(String call, int due, int got, int... numbers) {
        calls++;
        told.append(call).append(Arrays.toString(numbers)).append('=').append(got).append(' ');
        if (due != got && fault.isEmpty()) {
            fault = told + "but due is " + due;
        }
    }
}
