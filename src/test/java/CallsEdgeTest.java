import java.util.function.IntUnaryOperator;

/** How often an object is used: the last of its calls is answered as the first one was. */
public final class CallsEdgeTest {
    private static final int CALLS = 512;
    private static final String TEXT = "desk 10;place 0 0;place 0 10;truck 50 40;load 4 0 1;load 6 0 1;"
            + "trip 0 none 0 on 0 on 1 to 1 off 0 off 1;";
    /** As many calls as it takes to tell the text. */
    private static final int TOLD = (TEXT.length() + 19) / 20 + 2;

    private CallsEdgeTest() {
    }

    public static void main(String[] args) {
        Probe.sentence("An object is used for at most 512 calls after it has been made");
        manyFeeds();
        manyTexts();
        manyFaults();
        manyExceptions();
        manyOnPaper();
        manyChanges();
        manyRefusals();
        Probe.finish();
    }

    /** Asks a desk that was told the text the same until its calls are used up; the k-th answer from 0. */
    private static void ask(String name, FreightShare desk, IntUnaryOperator call, IntUnaryOperator want) {
        for (int k = 0; k < CALLS - TOLD; k++) {
            Probe.due(name + " " + k, call.applyAsInt(k), want.applyAsInt(k));
        }
    }

    private static void manyFeeds() {
        FreightShare desk = new FreightShare();
        for (int k = 1; k <= CALLS; k++) {
            Probe.due("feed " + k, desk.feed(k, k, k, k, k), k <= 42 ? 20 * k : -1);
        }
    }

    private static void manyTexts() {
        FreightShare desk = new FreightShare();
        int calls = 0;
        for (int rate = 1; calls + 3 <= CALLS; rate++) {
            Probe.put(desk, "desk " + rate + ";place 1 1;");
            Probe.due("text " + rate, desk.text(), 2);
            calls += 3;
        }
        Probe.due("the last call", desk.now(0), 170);
        Probe.due("calls", calls + 1, CALLS - 1);
    }

    private static void manyFaults() {
        FreightShare desk = new FreightShare();
        for (int k = 0; k < CALLS / 2; k++) {
            desk.feed(0x6465736b, 0x20202020, 0x20202020, 0x20202020, 0x20202020);
            Probe.due("fault " + k, desk.text(), -21);
        }
    }

    private static void manyExceptions() {
        FreightShare desk = Probe.told(TEXT);
        ask("load", desk, k -> k % 2 == 0 ? Probe.load(desk, 2, 0) : Probe.trip(desk, 0, 12), k -> Probe.THROWS);
        FreightShare right = Probe.told(TEXT);
        ask("load behind an exception", right, k -> Probe.load(right, k % 3, 0),
                k -> k % 3 == 0 ? 4 : k % 3 == 1 ? 6 : Probe.THROWS);
    }

    private static void manyOnPaper() {
        FreightShare desk = Probe.told(TEXT);
        // 40 by 4 and 6 is 16 and 24; by 1, 6 and 3 it is 4, 24 and 12.
        ask("on paper", desk, k -> k % 3 == 0 ? desk.split(0, 1, 1) : k % 3 == 1 ? desk.without(0, 1) : desk.share(0, 1),
                k -> k % 3 == 0 ? 4 : k % 3 == 1 ? 40 : 24);
    }

    private static void manyChanges() {
        FreightShare desk = Probe.told(TEXT);
        ask("buy", desk, k -> desk.buy(0, k), k -> k == 0 ? 40 : k == 40 ? 39 : k - 1);
        FreightShare undone = Probe.told(TEXT);
        ask("change and undo", undone, k -> k % 2 == 0 ? undone.weigh(1, 7) : undone.undo(), k -> k % 2 == 0 ? 6 : 0);
    }

    private static void manyRefusals() {
        FreightShare desk = Probe.told(TEXT);
        ask("refused", desk, k -> k % 3 == 0 ? desk.fuel(0, -1) : k % 3 == 1 ? desk.buy(0, 40) : desk.weigh(0, 4), k -> -2);
    }
}
