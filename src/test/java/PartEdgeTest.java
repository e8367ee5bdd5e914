import java.util.Arrays;

/** DIRECT to SHARE, the second of the terms: for each sentence that names a bound, a test of its own. */
public final class PartEdgeTest {
    /** Places 0 and 2 lie alike; 1 is 10 from both, 3 is 4 from both. */
    private static final String PLACES = "desk 1;place 0 0;place 0 10;place 0 0;place 0 4;";

    private PartEdgeTest() {
    }

    public static void main(String[] args) {
        directOfTwo();
        longOfLegs();
        emptyLegs();
        partIsDirect();
        partsRoundedDown();
        partsToTheGreatestRemainders();
        partsToTheFirstOfLikeOnes();
        partsOfZero();
        partsOfGreatNumbers();
        estimateIsFuelTold();
        estimateRoundedUp();
        closedIfSomeHaveNoFuel();
        closedIfEstimatesAreAboveZero();
        closedIfToldIsNoMoreThanBought();
        closedToAll();
        closedTruckByTruck();
        closedWithoutTrips();
        idleTrips();
        idleGoesAhead();
        idleGoesBehind();
        idleIsOpen();
        notIdlePartsWithThat();
        openAllTogether();
        openToNobody();
        shareIsAll();
        Probe.finish();
    }

    private static void trips(String name, FreightShare desk, int what, int... want) {
        for (int trip = 0; trip < want.length; trip++) {
            Probe.due(name + ": trip " + trip + " " + what, Probe.trip(desk, trip, what), want[trip]);
        }
    }

    private static void shares(String name, FreightShare desk, int trip, int... want) {
        for (int load = 0; load < want.length; load++) {
            Probe.due(name + ": share " + trip + " " + load, desk.share(trip, load), want[load]);
        }
    }

    /** A desk on which all is open: loads of these weights, all over the same way, and what was bought. */
    private static FreightShare open(int bought, int... weights) {
        StringBuilder text = new StringBuilder(PLACES + "truck 1 " + bought + ";");
        for (int weight : weights) {
            text.append("load ").append(weight).append(" 0 1;");
        }
        return Probe.told(text.toString());
    }

    private static int[] alike(int count, int value) {
        int[] row = new int[count];
        Arrays.fill(row, value);
        return row;
    }

    private static void directOfTwo() {
        Probe.sentence("DIRECT of two PLACES: by how much X differ and by how much Y differ, together.");
        FreightShare desk = Probe.told("desk 1;place 3 7;place 10 7;place 3 2;place 0 99;place 99 0;place 3 7;");
        int[][] want = {{0, 1, 7}, {1, 0, 7}, {0, 2, 5}, {2, 0, 5}, {1, 2, 12}, {2, 1, 12}, {3, 4, 198}, {4, 3, 198},
            {0, 0, 0}, {4, 4, 0}, {0, 5, 0}};
        for (int[] row : want) {
            Probe.due("direct " + row[0] + " " + row[1], desk.direct(row[0], row[1]), row[2]);
        }
    }

    private static void longOfLegs() {
        Probe.sentence("A TRIP is LONG as DIRECT of all its LEGS (PLACE to PLACE as told, also of like ones) together");
        trips("long", Probe.told(PLACES + "truck 1 1;trip 0 1 0;trip 0 1 0 to 0;trip 0 1 0 to 2;trip 0 1 0 to 1 to 1 to 0;"
                + "trip 0 1 1 to 0 to 1 to 3;"), 2, 0, 0, 0, 20, 26);
    }

    private static void emptyLegs() {
        Probe.sentence("EMPTY as those on which no LOAD is");
        trips("empty", Probe.told(PLACES + "truck 1 1;load 1 0 1;load 1 0 1;"
                + "trip 0 1 0;trip 0 1 0 to 1;trip 0 1 0 on 0 off 0 to 1;trip 0 1 0 to 1 on 0 off 0;"
                + "trip 0 1 0 on 0 to 1 off 0;trip 0 1 0 to 1 on 0 to 0 off 0 to 3;"
                + "trip 0 1 0 on 0 to 1 on 1 to 0 off 0 to 1 off 1 to 3;"
                + "trip 0 1 0 on 0 on 1 off 0 to 1 off 1 to 0;"), 3, 0, 10, 10, 10, 0, 14, 6, 10);
    }

    private static void partIsDirect() {
        Probe.sentence("A LOAD's PART of a TRIP: from where it is taken on to where it is off: WEIGHT times DIRECT of both.");
        FreightShare desk = Probe.told(PLACES + "truck 1 1;load 5 0 1;load 7 0 1;"
                + "trip 0 1 0 on 0 to 1 to 3 off 0;trip 0 1 0 on 0 to 1 to 0 off 0;trip 0 1 0 on 0 to 1 to 2 off 0;"
                + "trip 0 1 0 to 1 on 0 to 3 off 0 to 0;trip 0 1 0 on 0 off 0 on 1 to 3 off 1;");
        trips("parts", desk, 5, 20, 0, 0, 30, 28);
        Probe.due("parts of 0", Probe.load(desk, 0, 5), 50);
        Probe.due("legs of 0", Probe.load(desk, 0, 9), 16 + 20 + 20 + 6);
    }

    private static void partsRoundedDown() {
        Probe.sentence("To PART a number by some measures (one at least): "
                + "each has number times its measure by all measures together, rounded down");
        shares("one measure", open(7, 5), -1, 7);
        shares("one measure of nothing", open(0, 5), -1, 0);
        shares("whole numbers", open(7, 1, 4, 2), -1, 1, 4, 2);
        shares("nothing", open(0, 1, 4, 2), -1, 0, 0, 0);
        // 2.4, 0.8, 0.8 and 0.99, 0.01.
        shares("two left", open(4, 60, 20, 20), -1, 2, 1, 1);
        shares("nearly one", open(1, 99, 1), -1, 1, 0);
        shares("nearly one, behind", open(1, 1, 99), -1, 0, 1);
    }

    private static void partsToTheGreatestRemainders() {
        Probe.sentence("what is left goes one by one to those with the greatest remainders");
        // 8: 1.14, 4.57, 2.29; 9: 1.29, 5.14, 2.57; 10: 1.43, 5.71, 2.86; 11: 1.57, 6.29, 3.14.
        shares("eight", open(8, 1, 4, 2), -1, 1, 5, 2);
        shares("nine", open(9, 1, 4, 2), -1, 1, 5, 3);
        shares("ten", open(10, 1, 4, 2), -1, 1, 6, 3);
        shares("eleven", open(11, 1, 4, 2), -1, 2, 6, 3);
        // The greatest gets one, not all that is left: 1.89, 0.54, 0.57.
        shares("one each", open(3, 63, 18, 19), -1, 2, 0, 1);
        shares("two of three", open(2, 1, 1, 1), -1, 1, 1, 0);
    }

    private static void partsToTheFirstOfLikeOnes() {
        Probe.sentence("of like ones the first");
        for (int number : new int[] {0, 1, 2, 15, 16, 17, 31, 32}) {
            FreightShare desk = open(number, alike(16, 3));
            for (int load = 0; load < 16; load++) {
                Probe.due(number + " to sixteen: load " + load, desk.share(-1, load), (number + 15 - load) / 16);
            }
        }
        // Remainders alike of measures that are not: 3 by 1, 1, 4 is 0.5, 0.5, 2.
        shares("like remainders", open(3, 1, 1, 4), -1, 1, 0, 2);
        // 0.75, 0.75, 0.5 and 0.25, 0.375, 0.375.
        shares("like ones ahead", open(2, 3, 3, 2), -1, 1, 1, 0);
        shares("like ones behind", open(1, 2, 3, 3), -1, 0, 1, 0);
    }

    private static void partsOfZero() {
        Probe.sentence("If all measures are 0, the first has all.");
        FreightShare desk = Probe.told(PLACES + "truck 1 9;load 3 0 2;load 5 2 0;");
        shares("loads", desk, -1, 9, 0);
        // One is above 0, and has all then.
        shares("one above", Probe.told(PLACES + "truck 1 9;load 3 0 2;load 5 2 0;load 1 0 1;"), -1, 0, 0, 9);
        trips("trips", Probe.told(PLACES + "truck 0 9;trip 0 none 0 to 1;trip 0 none 0 to 1;trip 0 0 0;"), 7, 9, 0, 0);
        trips("one trip above", Probe.told(PLACES + "truck 0 9;trip 0 0 0;trip 0 1 0;"), 7, 0, 9);
        trips("nothing", Probe.told(PLACES + "truck 0 0;trip 0 0 0;trip 0 0 0;"), 7, 0, 0);
        // Behind another truck whose trips have something each: nothing of that is left.
        FreightShare two = Probe.told(PLACES + "truck 1 10;truck 0 9;load 3 0 2;load 5 2 0;"
                + "trip 0 1 0;trip 0 1 0;trip 1 0 0;trip 1 0 0;");
        trips("behind another", two, 7, 5, 5, 9, 0);
        shares("behind trips", two, -1, 19, 0);
    }

    private static void partsOfGreatNumbers() {
        Probe.sentence("number times its measure by all measures together");
        // 999 times 21780 and 198 by 100, rounded up, are 217583 and 1979; 9999 times the first is beyond 31 bits.
        StringBuilder text = new StringBuilder("desk 1;place 0 0;place 99 99;truck 999 9999;trip 0 none 0");
        for (int leg = 1; leg <= 110; leg++) {
            text.append(" to ").append(leg % 2);
        }
        FreightShare desk = Probe.told(text + ";trip 0 none 0 to 1;");
        trips("estimates", desk, 6, 217583, 1979);
        trips("closed", desk, 7, 9909, 90);
        FreightShare great = Probe.told("desk 1;place 0 0;place 99 99;" + "truck 1 9999;".repeat(4) + "load 99 0 1;".repeat(16));
        Probe.due("all of four trucks", great.now(7), 39996);
        Probe.due("the first", great.share(-1, 0), 2500);
        Probe.due("the twelfth", great.share(-1, 11), 2500);
        Probe.due("the thirteenth", great.share(-1, 12), 2499);
        Probe.due("shares", great.now(6), 39996);
    }

    private static void estimateIsFuelTold() {
        Probe.sentence("ESTIMATE of a TRIP: its FUEL, if told");
        FreightShare desk = Probe.told(PLACES + "truck 999 1;trip 0 0 0 to 1;trip 0 9999 0 to 1;trip 0 1 0;trip 0 none 0 to 1;");
        trips("fuel told", desk, 6, 0, 9999, 1, 100);
        desk.fuel(3, 0);
        desk.fuel(1, -1);
        trips("fuel told anew", desk, 6, 0, 100, 1, 0);
    }

    private static void estimateRoundedUp() {
        Probe.sentence("USE of its TRUCK times LONG by 100, rounded up");
        // LONG 0, 1, 99, 100, 101 with USE 1, 100 and 0; 199 by 100 is 2, 201 by 100 is 3.
        String text = "desk 1;place 0 0;place 0 1;place 0 99;place 1 99;place 2 99;";
        String[] rides = {"0", "0 to 1", "0 to 2", "0 to 3", "0 to 4"};
        int[] uses = {1, 0, 100, 2, 999};
        int[][] want = {{0, 1, 1, 1, 2}, {0, 0, 0, 0, 0}, {0, 1, 99, 100, 101}, {0, 1, 2, 2, 3}, {0, 10, 990, 999, 1009}};
        for (int k = 0; k < uses.length; k++) {
            StringBuilder trips = new StringBuilder(text + "truck " + uses[k] + " 1;");
            for (String ride : rides) {
                trips.append("trip 0 none ").append(ride).append(';');
            }
            trips("use " + uses[k], Probe.told(trips.toString()), 6, want[k]);
        }
    }

    private static void closedIfSomeHaveNoFuel() {
        Probe.sentence("if some of its TRIPS have no FUEL told");
        // USE 10: an estimate of 1 for 10, of 2 for 20.
        String text = PLACES + "truck 10 90;";
        trips("one of two", Probe.told(text + "trip 0 30 0;trip 0 none 0 to 1;"), 7, 30, 60);
        trips("one of one", Probe.told(text + "trip 0 none 0 to 1;"), 7, 90);
        trips("all of two", Probe.told(text + "trip 0 none 0 to 1;trip 0 none 0 to 1 to 0;"), 7, 30, 60);
        trips("none of two", Probe.told(text + "trip 0 1 0;trip 0 2 0;"), 7, 30, 60);
        trips("fuel 0 is told", Probe.told(text + "trip 0 0 0 to 1;trip 0 none 0 to 1;trip 0 none 0 to 1;"), 7, 0, 45, 45);
    }

    private static void closedIfEstimatesAreAboveZero() {
        Probe.sentence("their ESTIMATES together are above 0");
        // Estimates of 0: all by estimates, so that those without have nothing.
        trips("no way", Probe.told(PLACES + "truck 10 90;trip 0 none 0;trip 0 10 0;trip 0 20 0;"), 7, 0, 30, 60);
        trips("no use", Probe.told(PLACES + "truck 0 90;trip 0 none 0 to 1;trip 0 10 0;trip 0 20 0;"), 7, 0, 30, 60);
        // One of 0 and one of 1 are above 0 together.
        trips("just above", Probe.told(PLACES + "truck 10 90;trip 0 none 0 to 1;trip 0 none 0;trip 0 10 0;"), 7, 80, 0, 10);
        trips("just above, behind", Probe.told(PLACES + "truck 10 90;trip 0 none 0;trip 0 none 0 to 1;"
                + "trip 0 10 0;trip 0 none 0;"), 7, 0, 80, 10, 0);
    }

    private static void closedIfToldIsNoMoreThanBought() {
        Probe.sentence("FUEL told of the others together is no more than BOUGHT");
        // Told 10 and 20; estimate of the one without 30.
        String rest = "trip 0 10 0;trip 0 none 0 to 1;trip 0 20 0;";
        trips("more", Probe.told(PLACES + "truck 300 31;" + rest), 7, 10, 1, 20);
        trips("just as much", Probe.told(PLACES + "truck 300 30;" + rest), 7, 10, 0, 20);
        // 29 by 10, 30, 20 of 60: 4.83, 14.5, 9.67.
        trips("one less", Probe.told(PLACES + "truck 300 29;" + rest), 7, 5, 14, 10);
        trips("nothing bought", Probe.told(PLACES + "truck 300 0;" + rest), 7, 0, 0, 0);
        trips("0 of 0", Probe.told(PLACES + "truck 300 0;trip 0 0 0;trip 0 none 0 to 1;"), 7, 0, 0);
    }

    private static void closedToAll() {
        Probe.sentence("else BOUGHT is PARTED to all its TRIPS by ESTIMATES");
        trips("told too little", Probe.told(PLACES + "truck 1 60;trip 0 1 0;trip 0 2 0;trip 0 3 0;"), 7, 10, 20, 30);
        trips("told too much", Probe.told(PLACES + "truck 1 6;trip 0 10 0;trip 0 20 0;trip 0 30 0;"), 7, 1, 2, 3);
        trips("told as bought", Probe.told(PLACES + "truck 1 6;trip 0 1 0;trip 0 2 0;trip 0 3 0;"), 7, 1, 2, 3);
        StringBuilder sixteen = new StringBuilder(PLACES + "truck 1 31;");
        sixteen.append("trip 0 5 0;".repeat(16));
        int[] want = alike(16, 2);
        want[15] = 1;
        trips("sixteen", Probe.told(sixteen.toString()), 7, want);
    }

    private static void closedTruckByTruck() {
        Probe.sentence("CLOSED, TRUCK by TRUCK");
        // Truck 0 has one without, truck 1 has none, truck 2 was told too much.
        trips("three trucks", Probe.told(PLACES + "truck 10 50;truck 10 60;truck 10 3;"
                + "trip 2 4 0;trip 0 20 0;trip 1 1 0;trip 0 none 0 to 1;trip 2 none 0 to 1 to 0;trip 1 1 0;"), 7,
                2, 20, 30, 30, 1, 30);
    }

    private static void closedWithoutTrips() {
        Probe.sentence("(No TRIPS: BOUGHT is OPEN.)");
        String loads = PLACES + "truck 1 7;truck 1 5;load 1 0 1;";
        Probe.due("both trucks", Probe.told(loads).now(7), 12);
        Probe.due("one truck", Probe.told(loads + "trip 1 none 0 on 0 to 1 off 0;").now(7), 7);
        Probe.due("the other truck", Probe.told(loads + "trip 0 1 0 on 0 to 1 off 0;").now(7), 5);
        Probe.due("neither", Probe.told(loads + "trip 0 1 0 on 0 to 1 off 0;trip 1 1 0 on 0 to 1 off 0;").now(7), 0);
    }

    private static void idleTrips() {
        Probe.sentence("A TRIP is IDLE, if all its PARTS are 0 (or it has none).");
        // No load; on and off at one place; to a place that lies alike; one part of 0 of two; two of 0.
        FreightShare desk = Probe.told(PLACES + "truck 1 70;load 2 0 1;load 3 0 1;"
                + "trip 0 10 0 on 0 to 1 off 0;trip 0 10 0 to 1;trip 0 10 0 on 0 off 0 to 1;trip 0 10 0 on 0 to 1 to 2 off 0;"
                + "trip 0 10 0 on 0 off 0 on 1 to 1 off 1;trip 0 10 0 on 0 off 0 on 1 off 1;trip 0 10 0 on 1 to 3 off 1;");
        trips("parts", desk, 5, 20, 0, 0, 0, 30, 0, 12);
        trips("goes to", desk, 9, -1, 0, 0, 0, -1, 4, -1);
        trips("parts to loads", desk, 8, 40, 0, 0, 0, 20, 0, 10);
        shares("one part of 0", desk, 4, 0, 20);
    }

    private static void idleGoesAhead() {
        Probe.sentence("What an IDLE TRIP is CLOSED to goes to the next TRIP of its TRUCK ahead of it that is not IDLE");
        FreightShare desk = Probe.told(PLACES + "truck 1 63;truck 1 9;load 1 0 1;"
                + "trip 0 1 0 on 0 to 1 off 0;trip 0 2 0 on 0 to 1 off 0;trip 0 4 0;trip 1 9 0 on 0 to 1 off 0;trip 0 8 0;"
                + "trip 0 16 0 on 0 to 1 off 0;trip 0 32 0;");
        trips("closed", desk, 7, 1, 2, 4, 9, 8, 16, 32);
        trips("goes to", desk, 9, -1, -1, 1, -1, 1, -1, 5);
        trips("parts", desk, 8, 1, 14, 0, 9, 0, 48, 0);
        Probe.due("open", desk.now(7), 0);
    }

    private static void idleGoesBehind() {
        Probe.sentence("if there is none, to the next one behind it");
        FreightShare desk = Probe.told(PLACES + "truck 1 31;truck 1 9;load 1 0 1;"
                + "trip 1 9 0 on 0 to 1 off 0;trip 0 1 0;trip 0 2 0;trip 0 4 0 on 0 to 1 off 0;trip 0 8 0 on 0 to 1 off 0;"
                + "trip 0 16 0;");
        trips("goes to", desk, 9, -1, 3, 3, -1, -1, 4);
        trips("parts", desk, 8, 9, 0, 0, 7, 24, 0);
        Probe.due("open", desk.now(7), 0);
    }

    private static void idleIsOpen() {
        Probe.sentence("if there is none, it is OPEN");
        FreightShare desk = Probe.told(PLACES + "truck 1 3;truck 1 9;load 1 0 1;load 2 0 1;"
                + "trip 1 9 0 on 0 to 1 off 0;trip 0 1 0;trip 0 2 0 on 0 to 1 to 0 off 0;");
        trips("goes to", desk, 9, -1, -1, -1);
        trips("closed", desk, 7, 9, 1, 2);
        trips("parts", desk, 8, 9, 0, 0);
        Probe.due("open", desk.now(7), 3);
        shares("open", desk, -1, 1, 2);
        shares("idle", desk, 1, 0, 0);
        shares("idle with a load", desk, 2, 0, 0);
    }

    private static void notIdlePartsWithThat() {
        Probe.sentence("What a TRIP that is not IDLE has then, with that, is PARTED to its LOADS, by numbers, by their PARTS.");
        // 3 and 2 are parted at once: 5 by 1 and 1, the odd one to the lower number, though taken on last.
        FreightShare desk = Probe.told(PLACES + "truck 1 5;load 9 0 1;load 1 0 1;load 1 0 1;"
                + "trip 0 3 0 on 2 on 1 to 1 off 1 off 2;trip 0 2 1;");
        shares("at once", desk, 0, 0, 3, 2);
        // By what each rode, not by its own way: 10 and 4.
        shares("by parts", Probe.told(PLACES + "truck 1 14;load 1 0 1;load 1 0 1;"
                + "trip 0 3 0 on 0 on 1 to 3 off 1 to 1 off 0;"), 0, 10, 4);
    }

    private static void openAllTogether() {
        Probe.sentence("What is OPEN, all together, is PARTED to all LOADS by WEIGHT times DIRECT of FROM and TO.");
        // 5 of a truck without trips and 6 of an idle trip: 11 by 1 and 1, once.
        shares("together", Probe.told(PLACES + "truck 1 5;truck 1 6;load 1 0 1;load 1 1 0;trip 1 1 0;"), -1, 6, 5);
        // Loads that are on a trip bear of it too; ways of 10, 4 and 0.
        FreightShare desk = Probe.told(PLACES + "truck 1 8;truck 1 24;load 1 0 1;load 5 3 0;load 9 0 2;"
                + "trip 0 1 0 on 0 to 1 off 0;trip 1 1 0 on 2 to 1 to 0 off 2;");
        shares("trip", desk, 0, 8, 0, 0);
        shares("by direct", desk, -1, 8, 16, 0);
        shares("nothing is open", Probe.told(PLACES + "truck 1 8;load 1 0 1;load 2 0 1;trip 0 1 0 on 0 to 1 off 0;"), -1, 0, 0);
    }

    private static void openToNobody() {
        Probe.sentence("(No LOADS: to nobody.)");
        FreightShare desk = Probe.told(PLACES + "truck 1 5;truck 1 6;trip 1 1 0 to 1;");
        Probe.due("open", desk.now(7), 11);
        Probe.due("shares", desk.now(6), 0);
        Probe.due("share", desk.share(-1, 0), -1);
        FreightShare after = Probe.told(PLACES + "truck 1 5;load 1 0 1;load 1 0 1;");
        Probe.tell(after, PLACES + "truck 1 5;truck 1 6;");
        Probe.due("shares behind a text with loads", after.now(6), 0);
    }

    private static void shareIsAll() {
        Probe.sentence("SHARE of a LOAD: all that it has.");
        FreightShare desk = Probe.told(PLACES + "truck 1 7;truck 1 20;truck 1 9;load 1 0 1;load 3 0 1;"
                + "trip 1 10 0 on 0 to 1 off 0;trip 1 10 0 on 0 on 1 to 1 off 0 off 1;trip 0 1 0 on 1 to 1 off 1;");
        // 10 of trip 0; 2.5 and 7.5 of trip 1; 7 of trip 2; of 9 open 2.25 and 6.75.
        shares("trip 0", desk, 0, 10, 0);
        shares("trip 1", desk, 1, 3, 7);
        shares("trip 2", desk, 2, 0, 7);
        shares("open", desk, -1, 2, 7);
        Probe.due("share 0", Probe.load(desk, 0, 6), 15);
        Probe.due("share 1", Probe.load(desk, 1, 6), 21);
        Probe.due("shares", desk.now(6), 36);
    }
}
