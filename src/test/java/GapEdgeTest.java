/** GAPS, DUE, HUBS and WAYS, the third of the terms: for each sentence that names a bound, a test of its own. */
public final class GapEdgeTest {
    /** Places 0 and 3 lie alike. */
    private static final String PLACES = "desk 100;place 0 0;place 0 10;place 0 30;place 0 0;";

    private GapEdgeTest() {
    }

    public static void main(String[] args) {
        gapsInOrder();
        gapsOfTrucks();
        gapsOfLoads();
        gapsLast();
        gapsOfPlacesThatLieAlike();
        mostGaps();
        dueRoundedUp();
        dueOfAllGapsTogether();
        dueInNoShare();
        hubs();
        hubsOfTheNextTrip();
        ways();
        Probe.finish();
    }

    private static void gaps(String name, FreightShare desk, int[]... want) {
        Probe.due(name + ": gaps", desk.now(9), want.length);
        for (int k = 0; k < want.length; k++) {
            for (int what = 0; what < 3; what++) {
                Probe.due(name + ": gap " + k + " " + what, desk.gap(k, what), want[k][what]);
            }
        }
        Probe.due(name + ": beyond", desk.gap(want.length, 0), -1);
    }

    private static int[] gap(int owner, int from, int to) {
        return new int[] {owner, from, to};
    }

    private static void gapsInOrder() {
        Probe.sentence("GAPS, in this order: for each TRUCK, by numbers, each of its TRIPS, as told");
        gaps("order", Probe.told(PLACES + "truck 1 1;truck 1 1;load 1 1 0;load 1 0 1;"
                + "trip 1 1 0;trip 0 1 0;trip 1 1 1;trip 0 1 2;trip 1 1 2 on 0 to 1 off 0;trip 0 1 0;"),
                gap(0, 0, 2), gap(0, 2, 0), gap(1, 0, 1), gap(1, 1, 2),
                gap(100, 1, 2), gap(100, 1, 0), gap(101, 0, 1));
    }

    private static void gapsOfTrucks() {
        Probe.sentence("that begins elsewhere than the one ahead of it ended: from there to its first PLACE");
        gaps("no trips", Probe.told(PLACES + "truck 1 1;"));
        gaps("one trip", Probe.told(PLACES + "truck 1 1;trip 0 1 2 to 1;"));
        gaps("where it ended", Probe.told(PLACES + "truck 1 1;trip 0 1 2 to 1;trip 0 1 1 to 2;trip 0 1 2;"));
        gaps("elsewhere", Probe.told(PLACES + "truck 1 1;trip 0 1 2 to 1;trip 0 1 2 to 1;"), gap(0, 1, 2));
        // Where another truck's trip ended does not matter.
        gaps("two trucks", Probe.told(PLACES + "truck 1 1;truck 1 1;trip 0 1 0 to 1;trip 1 1 2;trip 0 1 1;trip 1 1 2;"));
    }

    private static void gapsOfLoads() {
        Probe.sentence("from where it is (FROM at first, behind a TRIP where it was off) "
                + "to where it is taken on next, if that is elsewhere");
        String text = PLACES + "truck 1 1;load 1 0 2;";
        gaps("all the way", Probe.told(text + "trip 0 1 0 on 0 to 2 off 0;"));
        gaps("a relay", Probe.told(text + "trip 0 1 0 on 0 to 1 off 0;trip 0 1 1 on 0 to 2 off 0;"));
        gaps("ahead", Probe.told(text + "trip 0 1 0 to 1 on 0 to 2 off 0;"), gap(100, 0, 1));
        gaps("between", Probe.told(text + "trip 0 1 0 on 0 to 1 off 0 to 2;trip 0 1 2 on 0 off 0;"), gap(100, 1, 2));
        // Trips as told, though the first one is of the second truck.
        gaps("two trucks", Probe.told(PLACES + "truck 1 1;" + text.substring(PLACES.length())
                + "trip 1 1 0 on 0 to 1 off 0;trip 0 1 1 on 0 to 2 off 0;"));
        // On and off where it is: it has not moved.
        gaps("on and off", Probe.told(text + "trip 0 1 0 on 0 off 0;trip 0 1 0 on 0 to 2 off 0;"));
    }

    private static void gapsLast() {
        Probe.sentence("last from where it is to TO");
        String text = PLACES + "truck 1 1;load 1 0 2;";
        gaps("on no trip", Probe.told(text), gap(100, 0, 2));
        gaps("to TO", Probe.told(text + "trip 0 1 0 on 0 to 2 off 0;"));
        gaps("not to TO", Probe.told(text + "trip 0 1 0 on 0 to 1 off 0;"), gap(100, 1, 2));
        gaps("beyond TO", Probe.told(text + "trip 0 1 0 on 0 to 2 off 0;trip 0 1 2 on 0 to 1 off 0;"), gap(100, 1, 2));
        gaps("to FROM again", Probe.told(text + "trip 0 1 0 on 0 to 2 to 0 off 0;"), gap(100, 0, 2));
    }

    private static void gapsOfPlacesThatLieAlike() {
        Probe.sentence("elsewhere");
        FreightShare desk = Probe.told(PLACES + "truck 1 1;load 1 0 3;trip 0 1 0;trip 0 1 3;");
        gaps("alike", desk, gap(0, 0, 3), gap(100, 0, 3));
        Probe.due("due of no way", Probe.load(desk, 0, 7), 0);
        Probe.due("gaps of the load", Probe.load(desk, 0, 8), 1);
    }

    private static void mostGaps() {
        Probe.sentence("GAPS, in this order");
        // Sixteen trips of one truck, each elsewhere; a load on each, elsewhere too, and not at TO in the end.
        FreightShare desk = Probe.told("desk 999;place 0 0;place 99 99;truck 1 1;load 99 0 1;"
                + "trip 0 1 1 on 0 to 0 off 0;".repeat(16));
        Probe.due("gaps", desk.now(9), 15 + 17);
        Probe.due("gaps of the load", Probe.load(desk, 0, 8), 17);
        Probe.due("the last of the truck", desk.gap(14, 0), 0);
        Probe.due("the first of the load", desk.gap(15, 0), 100);
        Probe.due("the last", desk.gap(31, 2), 1);
        Probe.due("none such", desk.gap(32, 2), -1);
        // 99 times 17 times 198 times 999 is 332900766.
        Probe.due("due", Probe.load(desk, 0, 7), 332901);
        // Six loads, two of them on sixteen trips.
        StringBuilder text = new StringBuilder("desk 1;place 0 0;place 0 1;truck 1 1;" + "load 1 0 1;".repeat(6));
        for (int trip = 0; trip < 16; trip++) {
            text.append("trip 0 1 1 on 0 on 1 to 0 off 0 off 1;");
        }
        FreightShare many = Probe.told(text.toString());
        Probe.due("many gaps", many.now(9), 15 + 2 * 17 + 4);
        Probe.due("the last of many", many.gap(52, 0), 105);
    }

    private static void dueRoundedUp() {
        Probe.sentence("WEIGHT times DIRECT times RATE, together, by 1000, rounded up");
        int[][] want = {{0, 99, 0}, {1, 1, 1}, {999, 1, 1}, {500, 2, 1}, {500, 3, 2}, {1, 99, 1}, {999, 99, 99}, {10, 99, 1},
            {11, 91, 2}};
        for (int[] row : want) {
            FreightShare desk = Probe.told("desk " + row[0] + ";place 0 0;place 0 1;load " + row[1] + " 0 1;");
            Probe.due("rate " + row[0] + ", weight " + row[1], Probe.load(desk, 0, 7), row[2]);
        }
        // 13 times 77 is 1001, 40 times 25 is 1000.
        Probe.due("1001", Probe.load(Probe.told("desk 77;place 0 0;place 0 1;load 13 0 1;"), 0, 7), 2);
        Probe.due("1000", Probe.load(Probe.told("desk 25;place 0 0;place 0 1;load 40 0 1;"), 0, 7), 1);
    }

    private static void dueOfAllGapsTogether() {
        Probe.sentence("DUE of a LOAD: of its GAPS WEIGHT times DIRECT times RATE, together");
        // Three gaps of 10 with weight 2: 1200 by 1000 is rounded up once, not 400 thrice; 3000 is 3.
        String rest = ";place 0 0;place 0 10;truck 1 1;load 2 0 1;trip 0 1 1 on 0 to 0 off 0;trip 0 1 1 on 0 to 0 off 0;";
        FreightShare desk = Probe.told("desk 20" + rest);
        Probe.due("gaps", Probe.load(desk, 0, 8), 3);
        Probe.due("together", Probe.load(desk, 0, 7), 2);
        Probe.due("a whole number", Probe.load(Probe.told("desk 50" + rest), 0, 7), 3);
        FreightShare none = Probe.told("desk 999;place 0 0;place 0 10;truck 1 1;load 99 0 1;"
                + "trip 0 1 0 on 0 to 1 off 0;trip 0 1 0;");
        Probe.due("a truck's gap is nobody's due", Probe.load(none, 0, 7), 0);
        Probe.due("no gaps", Probe.load(none, 0, 8), 0);
    }

    private static void dueInNoShare() {
        Probe.sentence("(in no SHARE)");
        FreightShare desk = Probe.told("desk 999;place 0 0;place 0 99;truck 1 5;load 99 0 1;");
        Probe.due("due", Probe.load(desk, 0, 7), 9792);
        Probe.due("share", Probe.load(desk, 0, 6), 5);
        Probe.due("shares", desk.now(6), 5);
    }

    private static void hubs() {
        Probe.sentence("A HUB: a PLACE at which a LOAD was off a TRIP and is taken on the next one that it is on.");
        String text = PLACES + "truck 1 1;truck 1 1;load 5 0 2;load 6 1 2;";
        Probe.due("no trips", Probe.told(text).now(8), 0);
        Probe.due("taken on at FROM", Probe.told(text + "trip 0 1 0 on 0 to 1 off 0;").now(8), 0);
        Probe.due("off, not on again", Probe.told(text + "trip 0 1 0 on 0 to 1 off 0;trip 0 1 1 on 1 to 2 off 1;").now(8), 0);
        Probe.due("off and on elsewhere", Probe.told(text + "trip 0 1 0 on 0 to 1 off 0;trip 0 1 2 on 0 off 0;").now(8), 0);
        Probe.due("off and on where it lies alike",
                Probe.told(text + "trip 0 1 1 on 0 to 0 off 0;trip 0 1 3 on 0 off 0;").now(8), 0);
        Probe.due("off and on", Probe.told(text + "trip 0 1 0 on 0 to 1 off 0;trip 1 1 1 on 0 to 2 off 0;").now(8), 2);
        Probe.due("place 0 too", Probe.told(text + "trip 0 1 0 on 0 off 0;trip 1 1 0 on 0 to 2 off 0;").now(8), 1);
    }

    private static void hubsOfTheNextTrip() {
        // Trips on which it is not, and of other trucks, may lie between; other ones that it is on may not.
        FreightShare desk = Probe.told(PLACES + "truck 1 1;truck 1 1;load 5 0 2;load 6 0 2;"
                + "trip 0 1 0 on 0 on 1 to 1 off 0 off 1;trip 0 1 2 on 1 to 1 off 1;trip 1 1 0;"
                + "trip 1 1 1 on 0 on 1 to 2 off 0 off 1;");
        Probe.due("hubs", desk.now(8), 2);
        Probe.due("both changed", desk.hub(1), 11);
        FreightShare between = Probe.told(PLACES + "truck 1 1;load 5 0 2;"
                + "trip 0 1 0 on 0 to 1 off 0;trip 0 1 0 on 0 to 2 off 0;trip 0 1 1 on 0 to 2 off 0;");
        Probe.due("not the next one", between.now(8), 0);
        Probe.due("no weight", between.hub(1), 0);
    }

    private static void ways() {
        Probe.sentence("A WAY: from a PLACE to another, unlike one: how often LEGS went so.");
        FreightShare desk = Probe.told(PLACES + "truck 1 1;"
                + "trip 0 1 0 to 0 to 1 to 1 to 0 to 3 to 0 to 1;trip 0 1 2;trip 0 1 0 to 1;");
        int[][] want = {{0, 1, 3}, {1, 0, 1}, {0, 3, 1}, {3, 0, 1}, {1, 2, 0}, {2, 0, 0}, {0, 0, -1}, {1, 1, -1}};
        for (int[] row : want) {
            Probe.due("way " + row[0] + " " + row[1], desk.way(row[0], row[1]), row[2]);
        }
        // From one trip to the next nobody went.
        Probe.due("between trips", desk.way(1, 2), 0);
        Probe.due("busiest", desk.busiest(), 1);
    }
}
