import java.util.NoSuchElementException;
import java.util.Random;

/** Any calls with any numbers: nothing is thrown but by load and trip, and sums hold. */
public final class StormTest {
    private static final int ROUNDS = 400;
    private static final int[] EDGES = {Integer.MIN_VALUE, Integer.MIN_VALUE + 1, -10000, -101, -3, -2, -1, 0, 1, 2, 3, 4,
        11, 12, 15, 16, 17, 98, 99, 100, 999, 1000, 9999, 10000, 1 << 16, Integer.MAX_VALUE - 1, Integer.MAX_VALUE};

    private StormTest() {
    }

    public static void main(String[] args) {
        for (int round = 0; round < ROUNDS; round++) {
            Random random = new Random(90 + round);
            FreightShare desk = new FreightShare();
            try {
                for (int k = 0; k < 512 - 50; k++) {
                    if (random.nextInt(60) == 0) {
                        desk.end(0);
                        Probe.put(desk, Texts.any(random));
                        desk.text();
                        k += 43;
                    }
                    call(random, desk);
                    checkSums("round " + round, desk);
                }
            } catch (RuntimeException e) {
                Probe.due("round " + round + " threw " + e, true, false);
            }
        }
        Probe.finish();
    }

    private static int number(Random random) {
        switch (random.nextInt(4)) {
            case 0: return EDGES[random.nextInt(EDGES.length)];
            case 1: return random.nextInt();
            default: return random.nextInt(8);
        }
    }

    private static void call(Random random, FreightShare desk) {
        int a = number(random);
        int b = number(random);
        int c = number(random);
        switch (random.nextInt(22)) {
            case 0 -> desk.feed(a, b, c, a, b);
            case 1 -> desk.end(a);
            case 2 -> desk.text();
            case 3 -> desk.fault();
            case 4 -> desk.now(a);
            case 5 -> desk.direct(a, b);
            case 6 -> desk.truck(a, b);
            case 7 -> mayThrow(desk, a, b, true);
            case 8 -> mayThrow(desk, a, b, false);
            case 9 -> desk.share(a, b);
            case 10 -> desk.gap(a, b);
            case 11 -> desk.way(a, b);
            case 12 -> desk.busiest();
            case 13 -> desk.hub(a);
            case 14 -> desk.split(a, b, c);
            case 15 -> desk.without(a, b);
            case 16 -> desk.dearest();
            case 17 -> desk.fuel(a, b);
            case 18 -> desk.buy(a, b);
            case 19 -> desk.weigh(a, b);
            default -> desk.undo();
        }
    }

    private static void mayThrow(FreightShare desk, int a, int b, boolean load) {
        boolean known = a >= 0 && a < desk.now(load ? 3 : 4) && b >= 0 && b <= (load ? 9 : 11);
        boolean threw = false;
        try {
            if (load) {
                desk.load(a, b);
            } else {
                desk.trip(a, b);
            }
        } catch (NoSuchElementException e) {
            threw = true;
        }
        Probe.due((load ? "load " : "trip ") + a + " " + b + " throws", threw, !known);
    }

    /** Whatever comes, loads bear all that was bought, if there are loads. */
    private static void checkSums(String name, FreightShare desk) {
        int bears = desk.now(3) == 0 ? 0 : desk.now(5);
        Probe.due(name + ": shares of all", desk.now(6), bears);
    }
}
