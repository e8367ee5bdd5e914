/** Promises 19 to 22: fuel, buy, weigh, undo. */
public final class ChangeTest {
    private static final String TEXT = "desk 10;place 0 0;place 0 10;truck 50 40;truck 1 9;load 4 0 1;load 6 0 1;"
            + "trip 0 none 0 on 0 on 1 to 1 off 0 off 1;trip 0 15 1 to 0;";
    private static final int LEAST = Integer.MIN_VALUE;
    private static final int GREATEST = Integer.MAX_VALUE;

    private ChangeTest() {
    }

    public static void main(String[] args) {
        fuelIsToldAnew();
        boughtIsToldAnew();
        weightIsToldAnew();
        refusedOnes();
        undoTakesTheLatest();
        undoKeepsTwelve();
        undoOfUndoneOnes();
        Probe.finish();
    }

    private static void fuelIsToldAnew() {
        FreightShare desk = Probe.told(TEXT);
        Probe.due("closed", Probe.trip(desk, 0, 7), 25);
        Probe.due("fuel 0 10", desk.fuel(0, 10), -1);
        Probe.due("fuel told", Probe.trip(desk, 0, 1), 10);
        Probe.due("closed by all", Probe.trip(desk, 0, 7), 16);
        Probe.due("fuel 1 none", desk.fuel(1, -1), 15);
        Probe.due("not told", Probe.trip(desk, 1, 1), -1);
        Probe.due("closed to the rest", Probe.trip(desk, 1, 7), 30);
        Probe.due("fuel 0 0", desk.fuel(0, 0), 10);
        Probe.due("fuel 0 9999", desk.fuel(0, 9999), 0);
        Probe.due("four", desk.now(10), 4);
    }

    private static void boughtIsToldAnew() {
        FreightShare desk = Probe.told(TEXT);
        Probe.due("buy 0 50", desk.buy(0, 50), 40);
        Probe.due("closed", Probe.trip(desk, 0, 7), 35);
        Probe.due("all bought", desk.now(5), 59);
        Probe.due("all shares", desk.now(6), 59);
        Probe.due("buy 1 0", desk.buy(1, 0), 9);
        Probe.due("open", desk.now(7), 0);
        Probe.due("buy 1 9999", desk.buy(1, 9999), 0);
        Probe.due("open then", desk.now(7), 9999);
    }

    private static void weightIsToldAnew() {
        FreightShare desk = Probe.told(TEXT);
        Probe.due("share", desk.share(0, 0), 16);
        Probe.due("weigh 0 1", desk.weigh(0, 1), 4);
        Probe.due("weight", Probe.load(desk, 0, 0), 1);
        Probe.due("parts", Probe.trip(desk, 0, 5), 70);
        Probe.due("parts of the load", Probe.load(desk, 0, 5), 10);
        Probe.due("share then", desk.share(0, 0), 6);
        Probe.due("share of open", desk.share(-1, 0), 1);
        Probe.due("weigh 0 99", desk.weigh(0, 99), 1);
        FreightShare gaps = Probe.told("desk 100;place 0 0;place 0 10;load 4 0 1;");
        Probe.due("due", Probe.load(gaps, 0, 7), 4);
        gaps.weigh(0, 40);
        Probe.due("due weighed", Probe.load(gaps, 0, 7), 40);
    }

    private static void refusedOnes() {
        FreightShare desk = Probe.told(TEXT);
        int[][] fuel = {{0, -1}, {1, 15}, {0, -2}, {0, 10000}, {2, 1}, {-1, 1}, {LEAST, 1}, {0, LEAST}, {0, GREATEST}};
        for (int[] call : fuel) {
            Probe.due("fuel " + call[0] + " " + call[1], desk.fuel(call[0], call[1]), -2);
        }
        int[][] buy = {{0, 40}, {0, -1}, {0, 10000}, {2, 1}, {-1, 1}, {GREATEST, 1}, {0, LEAST}, {0, GREATEST}};
        for (int[] call : buy) {
            Probe.due("buy " + call[0] + " " + call[1], desk.buy(call[0], call[1]), -2);
        }
        int[][] weigh = {{0, 4}, {0, 0}, {0, -1}, {0, 100}, {2, 1}, {-1, 1}, {GREATEST, 1}, {0, LEAST}, {0, GREATEST}};
        for (int[] call : weigh) {
            Probe.due("weigh " + call[0] + " " + call[1], desk.weigh(call[0], call[1]), -2);
        }
        Probe.due("nothing to undo", desk.now(10), 0);
        Probe.due("undo", desk.undo(), -1);
        Probe.due("closed as ever", Probe.trip(desk, 0, 7), 25);
    }

    private static void undoTakesTheLatest() {
        FreightShare desk = Probe.told(TEXT);
        desk.fuel(1, -1);
        desk.buy(0, 41);
        desk.weigh(1, 7);
        desk.weigh(1, 7);
        desk.weigh(1, 8);
        Probe.due("four", desk.now(10), 4);
        Probe.due("undo", desk.undo(), 3);
        Probe.due("weight 7", Probe.load(desk, 1, 0), 7);
        Probe.due("undo", desk.undo(), 2);
        Probe.due("weight 6", Probe.load(desk, 1, 0), 6);
        Probe.due("bought 41", desk.truck(0, 1), 41);
        Probe.due("undo", desk.undo(), 1);
        Probe.due("bought 40", desk.truck(0, 1), 40);
        Probe.due("closed in halves", Probe.trip(desk, 0, 7), 20);
        Probe.due("undo", desk.undo(), 0);
        Probe.due("fuel 15", Probe.trip(desk, 1, 1), 15);
        Probe.due("closed as told", Probe.trip(desk, 0, 7), 25);
        Probe.due("none", desk.undo(), -1);
        Probe.due("count", desk.now(10), 0);
    }

    private static void undoKeepsTwelve() {
        FreightShare desk = Probe.told(TEXT);
        for (int v = 1; v <= 15; v++) {
            desk.buy(1, 100 + v);
            Probe.due("kept " + v, desk.now(10), Math.min(v, 12));
        }
        for (int left = 11; left >= 0; left--) {
            Probe.due("undo to " + left, desk.undo(), left);
            Probe.due("bought then", desk.truck(1, 1), 103 + left);
        }
        Probe.due("the first three stay", desk.undo(), -1);
        Probe.due("bought in the end", desk.truck(1, 1), 103);
    }

    private static void undoOfUndoneOnes() {
        FreightShare desk = Probe.told(TEXT);
        desk.weigh(0, 50);
        desk.undo();
        Probe.due("what was undone is not undone", desk.undo(), -1);
        Probe.due("told again", desk.weigh(0, 50), 4);
        Probe.due("and undone again", desk.undo(), 0);
        Probe.due("weight", Probe.load(desk, 0, 0), 4);
    }
}
