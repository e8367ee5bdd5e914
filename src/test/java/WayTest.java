/** Promises 12 to 15: gap, way, busiest, hub. */
public final class WayTest {
    private static final String TEXT = "desk 100;place 0 0;place 10 0;place 20 0;place 20 5;"
            + "truck 10 10;truck 10 10;"
            + "load 5 0 3;load 6 2 1;load 7 1 0;"
            + "trip 1 none 0 on 0 to 1 off 0 to 2;"
            + "trip 0 none 1 on 0 to 2 off 0 to 0 to 1 to 1;"
            + "trip 1 none 3 to 2 on 0 to 1 off 0;"
            + "trip 0 none 0 to 0 on 0 to 1 on 1 off 0 off 1;"
            + "trip 1 none 1;";

    private WayTest() {
    }

    public static void main(String[] args) {
        gapsInOrder();
        gapsOfPlacesThatLieAlike();
        manyGaps();
        gapsNoneSuch();
        waysCount();
        busiestWay();
        hubs();
        Probe.finish();
    }

    private static void gapsInOrder() {
        FreightShare desk = Probe.told(TEXT);
        int[][] want = {
            {0, 1, 0},
            {1, 2, 3},
            {100, 1, 0},
            {100, 1, 3},
            {101, 2, 1},
            {102, 1, 0}};
        Probe.due("gaps", desk.now(9), want.length);
        for (int k = 0; k < want.length; k++) {
            for (int what = 0; what < 3; what++) {
                Probe.due("gap " + k + " " + what, desk.gap(k, what), want[k][what]);
            }
        }
        Probe.due("gaps of load 0", Probe.load(desk, 0, 8), 2);
        Probe.due("due of load 0", Probe.load(desk, 0, 7), 13);
        Probe.due("gaps of load 1", Probe.load(desk, 1, 8), 1);
        Probe.due("gaps of load 2", Probe.load(desk, 2, 8), 1);
    }

    private static void gapsOfPlacesThatLieAlike() {
        FreightShare desk = Probe.told("desk 9;place 5 5;place 5 5;truck 1 1;load 3 0 1;trip 0 1 0;trip 0 1 1;");
        Probe.due("gaps", desk.now(9), 2);
        Probe.due("of the truck", desk.gap(0, 0), 0);
        Probe.due("of the load", desk.gap(1, 0), 100);
        Probe.due("due", Probe.load(desk, 0, 7), 0);
    }

    private static void manyGaps() {
        StringBuilder text = new StringBuilder("desk 9;place 1 1;place 1 2;truck 1 1;");
        text.append("load 1 1 0;".repeat(3));
        for (int trip = 0; trip < 16; trip++) {
            text.append("trip 0 1 0 on 0 on 1 to 1 off 0 off 1;");
        }
        FreightShare desk = Probe.told(text.toString());
        // Each trip but the first begins elsewhere; two loads are taken on 16 times elsewhere and end elsewhere.
        Probe.due("gaps", desk.now(9), 15 + 2 * 17 + 1);
        Probe.due("last", desk.gap(49, 0), 102);
        Probe.due("gaps of a load", Probe.load(desk, 1, 8), 17);
        Probe.due("bits of a load", Probe.load(desk, 1, 4), 65535);
        Probe.due("beyond", desk.gap(50, 0), -1);
    }

    private static void gapsNoneSuch() {
        FreightShare desk = Probe.told(TEXT);
        int[][] none = {{-1, 0}, {6, 0}, {0, -1}, {0, 3}, {Integer.MIN_VALUE, 0}, {Integer.MAX_VALUE, 2},
            {0, Integer.MAX_VALUE}};
        for (int[] pair : none) {
            Probe.due("gap " + pair[0] + " " + pair[1], desk.gap(pair[0], pair[1]), -1);
        }
        FreightShare closed = Probe.told("desk 1;place 0 0;place 1 1;truck 1 1;load 1 0 1;"
                + "trip 0 1 0 on 0 to 1 off 0;trip 0 1 1 to 0;");
        Probe.due("no gaps", closed.now(9), 0);
        Probe.due("gap of none", closed.gap(0, 0), -1);
    }

    private static void waysCount() {
        FreightShare desk = Probe.told(TEXT);
        Probe.due("way 0 1", desk.way(0, 1), 3);
        Probe.due("way 1 0", desk.way(1, 0), 0);
        Probe.due("way 1 2", desk.way(1, 2), 2);
        Probe.due("way 2 1", desk.way(2, 1), 1);
        Probe.due("way 2 0", desk.way(2, 0), 1);
        Probe.due("way 3 2", desk.way(3, 2), 1);
        Probe.due("way 2 3", desk.way(2, 3), 0);
        int[][] none = {{0, 0}, {1, 1}, {4, 0}, {0, 4}, {-1, 0}, {0, -1}, {12, 0}, {0, Integer.MIN_VALUE}};
        for (int[] pair : none) {
            Probe.due("way " + pair[0] + " " + pair[1], desk.way(pair[0], pair[1]), -1);
        }
    }

    private static void busiestWay() {
        Probe.due("busiest", Probe.told(TEXT).busiest(), 1);
        String places = "desk 1;" + "place 1 1;".repeat(12) + "truck 1 1;";
        Probe.due("of like ones", Probe.told(places + "trip 0 1 11 to 2 to 9 to 1;").busiest(), 209);
        Probe.due("of like ones from one", Probe.told(places + "trip 0 1 3 to 11 to 3 to 10;").busiest(), 310);
        Probe.due("most", Probe.told(places + "trip 0 1 0 to 1 to 11 to 10;trip 0 1 11 to 10;").busiest(), 1110);
        Probe.due("like places only", Probe.told(places + "trip 0 1 0 to 0 to 0;").busiest(), -1);
        Probe.due("no legs", Probe.told(places + "trip 0 1 0;").busiest(), -1);
        Probe.due("no trips", Probe.told(places).busiest(), -1);
    }

    private static void hubs() {
        FreightShare desk = Probe.told(TEXT);
        // Load 0: off at 1, on at 1; off at 2, on at 2; off at 1, on at 0.
        Probe.due("hubs", desk.now(8), 6);
        Probe.due("hub 0", desk.hub(0), 0);
        Probe.due("hub 1", desk.hub(1), 5);
        Probe.due("hub 2", desk.hub(2), 5);
        Probe.due("hub 3", desk.hub(3), 0);
        Probe.due("hub 4", desk.hub(4), -1);
        Probe.due("hub -1", desk.hub(-1), -1);
        Probe.due("hub least", desk.hub(Integer.MIN_VALUE), -1);
        desk.weigh(0, 99);
        Probe.due("hub weighed", desk.hub(2), 99);
        String text = "desk 1;place 0 0;place 9 9;truck 1 1;load 4 0 1;load 30 0 1;"
                + "trip 0 1 0 on 0 on 1 to 1 off 0 off 1;trip 0 1 0;trip 0 1 1 on 1 on 0 off 0 off 1;"
                + "trip 0 1 1 on 0 to 0 off 0;";
        FreightShare each = Probe.told(text);
        Probe.due("each time", each.hub(1), 4 + 30 + 4);
        Probe.due("where it began is no hub", each.hub(0), 0);
        Probe.due("bits", each.now(8), 2);
    }
}
