import java.util.Random;

/** No call throws, whatever its arguments and whatever came before; and the same calls answer the same. */
public final class RandomCallsTest {
    private static final int[] ODD = {-1, -2, 256, 257, 25, 8, 4, 1000, Integer.MIN_VALUE, Integer.MAX_VALUE};

    public static void main(String[] args) {
        Check check = new Check("RandomCallsTest");
        for (int seed = 0; seed < 1000; seed++) {
            long once = run(seed, check);
            check.is("seed " + seed + " again", run(seed, check), once);
        }
        check.finish();
    }

    private static long run(int seed, Check check) {
        Random random = new Random(seed);
        PortWarden x = new PortWarden();
        long sum = 0;
        for (int i = 0; i < 170; i++) {
            sum = sum * 31 + call(x, random);
            int ready = x.ready(0);
            if (ready < 0 || ready > 65 || x.column(0) < 0) {
                check.is("seed " + seed + ": released and column stay in their ranges", false, true);
            }
        }
        return sum;
    }

    private static int call(PortWarden x, Random r) {
        int port = number(r, 2);
        int process = number(r, 3);
        boolean on = r.nextInt(4) != 0;
        switch (r.nextInt(26)) {
            case 0: return x.transmit(port);
            case 1: return x.held(port);
            case 2: return x.carrier(port, on) ? 1 : 0;
            case 3: return x.clear(port, on) ? 1 : 0;
            case 4: return x.open(process, port) ? 1 : 0;
            case 5: return x.close(process, port) ? 1 : 0;
            case 6: return x.join(process, number(r, 8)) ? 1 : 0;
            case 7: return x.foreground(port, number(r, 8)) ? 1 : 0;
            case 8: return x.write(process, port, number(r, 256));
            case 9: return x.read(process, port);
            case 10: return x.mode(port, number(r, 25), number(r, 2), number(r, 3)) ? 1 : 0;
            case 11: return x.mode(port, number(r, 25), number(r, 257), number(r, 3)) ? 1 : 0;
            case 12: return x.modeOf(port, number(r, 25));
            case 13: return x.poll(process, port);
            case 14: return x.signals(process);
            case 15: return x.count(port, number(r, 5));
            case 16: return x.column(port);
            case 17: return x.flush(port, number(r, 3)) ? 1 : 0;
            case 18: return x.ready(port);
            case 19: x.tick(); return 0;
            case 20: return x.write(process, port, 9 + r.nextInt(2));
            default: return x.receive(port, number(r, r.nextBoolean() ? 32 : 256), r.nextInt(9) == 0 ? number(r, 4) : 0) ? 1 : 0;
        }
    }

    private static int number(Random r, int below) {
        return r.nextInt(40) == 0 ? ODD[r.nextInt(ODD.length)] : r.nextInt(below);
    }
}
