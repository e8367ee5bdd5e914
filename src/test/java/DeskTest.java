/** Promises 6 to 8: now, direct, truck. */
public final class DeskTest {
    private static final String TEXT = "desk 40;place 2 3;place 10 1;place 0 99;truck 150 80;truck 33 7;truck 9 500;"
            + "load 3 0 1;load 4 1 2;"
            + "trip 1 12 0 to 1 on 1 to 2 off 1;"
            + "trip 0 none 1 to 1 to 0 on 0 to 1 off 0 to 2;"
            + "trip 1 none 2 to 0;"
            + "trip 1 5 0;";

    private DeskTest() {
    }

    public static void main(String[] args) {
        nowTells();
        directTells();
        truckTells();
        Probe.finish();
    }

    private static void nowTells() {
        FreightShare desk = Probe.told(TEXT);
        Probe.due("rate", desk.now(0), 40);
        Probe.due("places", desk.now(1), 3);
        Probe.due("trucks", desk.now(2), 3);
        Probe.due("loads", desk.now(3), 2);
        Probe.due("trips", desk.now(4), 4);
        Probe.due("bought", desk.now(5), 587);
        Probe.due("shares", desk.now(6), 587);
        Probe.due("open", desk.now(7), 500);
        Probe.due("hubs", desk.now(8), 0);
        Probe.due("gaps", desk.now(9), 0);
        Probe.due("undo", desk.now(10), 0);
        desk.feed(1, 2, 3, 4, 5);
        Probe.due("tape", desk.now(11), 20);
        for (int what : new int[] {-1, 12, 100, Integer.MIN_VALUE, Integer.MAX_VALUE}) {
            Probe.due("now " + what, desk.now(what), -1);
        }
        FreightShare nobody = Probe.told("desk 0;truck 1 44;truck 2 6;");
        Probe.due("open to nobody", nobody.now(7), 50);
        Probe.due("no shares", nobody.now(6), 0);
    }

    private static void directTells() {
        FreightShare desk = Probe.told(TEXT);
        Probe.due("direct 0 1", desk.direct(0, 1), 10);
        Probe.due("direct 1 0", desk.direct(1, 0), 10);
        Probe.due("direct 1 2", desk.direct(1, 2), 108);
        Probe.due("direct 2 2", desk.direct(2, 2), 0);
        Probe.due("direct 0 3", desk.direct(0, 3), -1);
        Probe.due("direct 3 0", desk.direct(3, 0), -1);
        Probe.due("direct -1 0", desk.direct(-1, 0), -1);
        Probe.due("direct 0 least", desk.direct(0, Integer.MIN_VALUE), -1);
        FreightShare far = Probe.told("desk 1;place 0 99;place 99 0;");
        Probe.due("farthest", far.direct(0, 1), 198);
    }

    private static void truckTells() {
        FreightShare desk = Probe.told(TEXT);
        // Truck 0: 1 to 1, 0, 1, 2, that is 0 + 10 + 10 + 108, of which the third leg is not empty.
        int[] zero = {150, 80, 2, 128, 118, 0, 2, 192, -1};
        // Truck 1: 0 to 1 to 2, 2 to 0, nowhere: 10 + 108 and 98; 33 times 98 by 100 is 32.34.
        int[] one = {33, 7, 13, 216, 108, 17, 0, 50, -1};
        int[] two = {9, 500, 0, 0, 0, 0, -1, 0, -1};
        for (int what = 0; what <= 8; what++) {
            Probe.due("truck 0 " + what, desk.truck(0, what), zero[what]);
            Probe.due("truck 1 " + what, desk.truck(1, what), one[what]);
            Probe.due("truck 2 " + what, desk.truck(2, what), two[what]);
            Probe.due("truck 3 " + what, desk.truck(3, what), -1);
            Probe.due("truck -1 " + what, desk.truck(-1, what), -1);
        }
        Probe.due("truck 0 -1", desk.truck(0, -1), -1);
        desk.fuel(0, -1);
        Probe.due("fuel told less", desk.truck(1, 5), 5);
        desk.buy(0, 81);
        Probe.due("bought anew", desk.truck(0, 1), 81);
    }
}
