/** Promises 9 and 10: load, trip. */
public final class LoadTripTest {
    private static final int THROWS = Probe.THROWS;
    /** Places 2 and 3 lie alike. */
    private static final String TEXT = "desk 30;place 0 0;place 10 0;place 10 20;place 10 20;place 50 50;"
            + "truck 45 100;truck 10 60;"
            + "load 5 0 2;load 2 4 0;load 7 2 3;"
            + "trip 0 none 0 to 1 to 0 on 0 to 1 to 4 to 1 off 0;"
            + "trip 1 20 1 on 0 to 4 on 1 off 0 to 0 to 2 off 1;"
            + "trip 1 none 2 on 2 to 3 off 2;"
            + "trip 1 0 3 to 3;";

    private LoadTripTest() {
    }

    public static void main(String[] args) {
        loadTells();
        loadThrows();
        tripTells();
        tripThrows();
        Probe.finish();
    }

    private static void loadTells() {
        FreightShare desk = Probe.told(TEXT);
        int[][] want = {
            // 5 to where it is off: 5 times 10, 5 times 90; gaps 4 to 2: 5 * 70 * 30 by 1000.
            {5, 0, 2, 30, 3, 500, Probe.load(desk, 0, 6), 11, 1, 280},
            // 4 to 2 with trip 1: 2 times 70; gap 2 to 0: 2 * 30 * 30 by 1000.
            {2, 4, 0, 100, 2, 140, Probe.load(desk, 1, 6), 2, 1, 130},
            // Places that lie alike are still unlike: no gap, as it was taken from one to the other.
            {7, 2, 3, 0, 4, 0, 0, 0, 0, 0}};
        for (int load = 0; load < 3; load++) {
            for (int what = 0; what <= 9; what++) {
                Probe.due("load " + load + " " + what, Probe.load(desk, load, what), want[load][what]);
            }
        }
        Probe.due("share 0", Probe.load(desk, 0, 6), 100 + 46);
        Probe.due("share 1", Probe.load(desk, 1, 6), 14);
        FreightShare exact = Probe.told("desk 500;place 0 0;place 0 1;load 2 0 1;load 3 0 1;");
        Probe.due("due of a whole number", Probe.load(exact, 0, 7), 1);
        Probe.due("due rounded up", Probe.load(exact, 1, 7), 2);
        FreightShare free = Probe.told("desk 0;place 0 0;place 0 1;load 99 0 1;");
        Probe.due("due without a rate", Probe.load(free, 0, 7), 0);
        FreightShare dear = Probe.told("desk 999;place 0 0;place 99 99;load 99 0 1;");
        Probe.due("due of a long way", Probe.load(dear, 0, 7), 19583);
    }

    private static void loadThrows() {
        FreightShare desk = Probe.told(TEXT);
        int[] whats = {-1, 10, 11, Integer.MIN_VALUE, Integer.MAX_VALUE};
        for (int what : whats) {
            Probe.due("load 0 " + what, Probe.load(desk, 0, what), THROWS);
        }
        int[] none = {-1, 3, 16, Integer.MIN_VALUE, Integer.MAX_VALUE};
        for (int load : none) {
            Probe.due("load " + load + " 0", Probe.load(desk, load, 0), THROWS);
            Probe.due("load " + load + " 99", Probe.load(desk, load, 99), THROWS);
        }
        Probe.due("load of a new object", Probe.load(new FreightShare(), 0, 0), THROWS);
        Probe.tell(desk, "");
        Probe.due("load of an empty text", Probe.load(desk, 0, 0), THROWS);
    }

    private static void tripTells() {
        FreightShare desk = Probe.told(TEXT);
        int[][] want = {
            // Legs 10, 10, 10, 90, 90; 45 times 210 by 100 is 94.5.
            {0, -1, 210, 20, 1, 50, 95, 100, 100, -1, 0, 1},
            // Legs 90, 100, 30. Fuel 20 is kept only if others without have an estimate: they have 0.
            {1, 20, 220, 0, 3, 590, 20, 60, 60, -1, 1, 2},
            {1, -1, 0, 0, 4, 0, 0, 0, 0, 1, 2, 3},
            {1, 0, 0, 0, 0, 0, 0, 0, 0, 1, 3, 3}};
        for (int trip = 0; trip < 4; trip++) {
            for (int what = 0; what <= 11; what++) {
                Probe.due("trip " + trip + " " + what, Probe.trip(desk, trip, what), want[trip][what]);
            }
        }
        FreightShare even = Probe.told("desk 1;place 0 0;place 0 50;truck 2 1;trip 0 none 0 to 1;trip 0 none 0;");
        Probe.due("estimate of a whole number", Probe.trip(even, 0, 6), 1);
        Probe.due("estimate of nothing", Probe.trip(even, 1, 6), 0);
        even.fuel(0, 9999);
        Probe.due("estimate is fuel told", Probe.trip(even, 0, 6), 9999);
        Probe.due("fuel told", Probe.trip(even, 0, 1), 9999);
    }

    private static void tripThrows() {
        FreightShare desk = Probe.told(TEXT);
        int[] whats = {-1, 12, 13, Integer.MIN_VALUE, Integer.MAX_VALUE};
        for (int what : whats) {
            Probe.due("trip 0 " + what, Probe.trip(desk, 0, what), THROWS);
        }
        int[] none = {-1, 4, 16, Integer.MIN_VALUE, Integer.MAX_VALUE};
        for (int trip : none) {
            Probe.due("trip " + trip + " 0", Probe.trip(desk, trip, 0), THROWS);
            Probe.due("trip " + trip + " 99", Probe.trip(desk, trip, 99), THROWS);
        }
        Probe.due("trip of a new object", Probe.trip(new FreightShare(), 0, 0), THROWS);
    }
}
