/** Promise 11, and with 10 the terms behind it: to PART, CLOSED, IDLE, OPEN, SHARE. */
public final class ShareTest {
    private static final String PLACES = "desk 1;place 0 0;place 0 10;place 0 0;";

    private ShareTest() {
    }

    public static void main(String[] args) {
        partsByRemainders();
        partsOfZeroGoToTheFirst();
        closesMissingFuel();
        closesWhatWasToldTooHigh();
        closesToldFuelAnew();
        idleGoesAhead();
        idleGoesBehind();
        idleIsOpen();
        openByDirect();
        openOfTruckWithoutTrips();
        wrongOnes();
        Probe.finish();
    }

    private static void shares(String what, FreightShare desk, int trip, int... want) {
        for (int load = 0; load < want.length; load++) {
            Probe.due(what + ": share " + trip + " " + load, desk.share(trip, load), want[load]);
        }
    }

    private static void closed(String what, FreightShare desk, int... want) {
        for (int trip = 0; trip < want.length; trip++) {
            Probe.due(what + ": trip " + trip, Probe.trip(desk, trip, 7), want[trip]);
        }
    }

    private static void partsByRemainders() {
        // Measures alike: what is left goes to the first ones.
        shares("alike", Probe.told(PLACES + "truck 1 5;load 3 0 1;load 3 0 1;load 3 0 1;"
                + "trip 0 1 0 on 2 on 1 on 0 to 1 off 0 off 1 off 2;"), 0, 2, 2, 1);
        // 7 by 1, 4, 2 of 7: whole numbers. 8: 1.14, 4.57, 2.28.
        FreightShare desk = Probe.told(PLACES + "truck 1 7;load 1 0 1;load 4 0 1;load 2 0 1;"
                + "trip 0 1 0 on 0 on 1 on 2 to 1 off 0 off 1 off 2;");
        shares("whole", desk, 0, 1, 4, 2);
        desk.buy(0, 8);
        shares("greatest remainder", desk, 0, 1, 5, 2);
        // 9: 1.28, 5.14, 2.57; 10: 1.43, 5.71, 2.86.
        desk.buy(0, 9);
        shares("nine", desk, 0, 1, 5, 3);
        desk.buy(0, 10);
        shares("two left", desk, 0, 1, 6, 3);
        desk.buy(0, 0);
        shares("nothing", desk, 0, 0, 0, 0);
        // Great numbers: 9999 by 99 times 198 and 1 times 198.
        FreightShare great = Probe.told("desk 1;place 0 0;place 99 99;truck 999 9999;load 99 0 1;load 1 0 1;"
                + "trip 0 none 0 on 0 on 1 to 1 off 0 off 1;");
        shares("great", great, 0, 9899, 100);
    }

    private static void partsOfZeroGoToTheFirst() {
        FreightShare desk = Probe.told(PLACES + "truck 0 9;load 3 0 2;load 3 2 0;trip 0 none 0 to 1;trip 0 none 1 to 0;");
        closed("no estimates", desk, 9, 0);
        Probe.due("open", desk.now(7), 9);
        shares("no way", desk, -1, 9, 0);
        FreightShare told = Probe.told(PLACES + "truck 50 9;trip 0 0 0 to 1;trip 0 0 1 to 0;");
        closed("fuel 0 told of all", told, 9, 0);
    }

    private static void closesMissingFuel() {
        // Estimates of those without: 10 and 20 by 50: 5 and 10; 100 less 30 by 5 and 10.
        FreightShare desk = Probe.told(PLACES + "truck 50 100;trip 0 none 0 to 1;trip 0 30 1 to 0;trip 0 none 0 to 1 to 0;");
        closed("missing", desk, 23, 30, 47);
        desk.buy(0, 30);
        closed("just enough", desk, 0, 30, 0);
        desk.buy(0, 29);
        // Now all by estimates 5, 30, 10 of 45: 3.22, 19.33, 6.44.
        closed("not enough", desk, 3, 19, 7);
    }

    private static void closesWhatWasToldTooHigh() {
        // One without, but its estimate is 0: all by estimates.
        FreightShare desk = Probe.told(PLACES + "truck 50 100;trip 0 none 0;trip 0 10 0 to 1;trip 0 30 1;");
        closed("estimate 0", desk, 0, 25, 75);
        // Each truck for itself.
        FreightShare two = Probe.told(PLACES + "truck 50 100;truck 10 8;trip 1 none 0 to 1;trip 0 none 0 to 1;"
                + "trip 1 5 1 to 0;trip 0 99 1 to 0;");
        closed("two trucks", two, 3, 1, 5, 99);
    }

    private static void closesToldFuelAnew() {
        FreightShare desk = Probe.told(PLACES + "truck 50 60;trip 0 10 0;trip 0 10 0;trip 0 20 0;");
        closed("all told", desk, 15, 15, 30);
        desk.fuel(2, 0);
        closed("one 0", desk, 30, 30, 0);
    }

    private static void idleGoesAhead() {
        FreightShare desk = Probe.told(PLACES + "truck 1 100;truck 1 50;load 1 0 1;load 1 0 1;"
                + "trip 0 10 0 on 0 to 1 off 0;trip 0 20 0 on 1 to 1 off 1;trip 1 5 0 on 0 to 1 off 0;"
                + "trip 0 30 1 to 0;trip 0 40 0 on 0 to 1 to 0 off 0;trip 0 0 0 on 1 to 1 off 1;");
        closed("told", desk, 10, 20, 50, 30, 40, 0);
        int[] parted = {10, 90, 50, 0, 0, 0};
        int[] goes = {-1, -1, -1, 1, 1, -1};
        for (int trip = 0; trip < 6; trip++) {
            Probe.due("ahead: parts " + trip, Probe.trip(desk, trip, 8), parted[trip]);
            Probe.due("ahead: goes " + trip, Probe.trip(desk, trip, 9), goes[trip]);
        }
        shares("ahead", desk, 0, 10, 0);
        shares("ahead", desk, 1, 0, 90);
        shares("ahead", desk, 2, 50, 0);
        shares("idle", desk, 3, 0, 0);
        shares("idle with a load", desk, 4, 0, 0);
        Probe.due("nothing open", desk.now(7), 0);
        Probe.due("share of 0", Probe.load(desk, 0, 6), 60);
    }

    private static void idleGoesBehind() {
        FreightShare desk = Probe.told(PLACES + "truck 1 100;truck 1 50;load 1 0 1;"
                + "trip 0 10 0 to 1;trip 1 50 0 on 0 to 1 off 0;trip 0 20 1 on 0 off 0;"
                + "trip 0 30 0 on 0 to 1 off 0;trip 0 40 0 on 0 to 1 off 0;");
        int[] parted = {0, 50, 0, 60, 40};
        int[] goes = {3, -1, 3, -1, -1};
        for (int trip = 0; trip < 5; trip++) {
            Probe.due("behind: parts " + trip, Probe.trip(desk, trip, 8), parted[trip]);
            Probe.due("behind: goes " + trip, Probe.trip(desk, trip, 9), goes[trip]);
        }
    }

    private static void idleIsOpen() {
        // Load 0 is taken from a place to one that lies alike: a part of 0.
        FreightShare desk = Probe.told(PLACES + "truck 1 100;truck 1 50;load 4 0 2;load 3 0 1;"
                + "trip 0 60 0 on 0 to 1 to 2 off 0;trip 0 40 2;trip 1 1 0 on 1 to 1 off 1;");
        Probe.due("open", desk.now(7), 100);
        Probe.due("goes 0", Probe.trip(desk, 0, 9), -1);
        Probe.due("goes 1", Probe.trip(desk, 1, 9), -1);
        Probe.due("parts of 0", Probe.trip(desk, 0, 5), 0);
        Probe.due("loads of 0", Probe.trip(desk, 0, 4), 1);
        Probe.due("what 0 parts", Probe.trip(desk, 0, 8), 0);
        shares("idle", desk, 0, 0, 0);
        shares("open", desk, -1, 0, 100);
        Probe.due("share of 1", Probe.load(desk, 1, 6), 150);
    }

    private static void openByDirect() {
        // All that is open is parted at once: 5 + 6 by 1 and 1, not each for itself.
        FreightShare desk = Probe.told(PLACES + "truck 1 5;truck 1 6;load 1 0 1;load 1 1 0;");
        Probe.due("open", desk.now(7), 11);
        shares("open", desk, -1, 6, 5);
        desk.weigh(1, 10);
        shares("open by weight", desk, -1, 1, 10);
    }

    private static void openOfTruckWithoutTrips() {
        FreightShare desk = Probe.told(PLACES + "truck 1 7;truck 1 6;load 1 0 1;trip 1 none 0 on 0 to 1 off 0;");
        Probe.due("open", desk.now(7), 7);
        shares("trip", desk, 0, 6);
        shares("open", desk, -1, 7);
        Probe.due("all", desk.now(6), 13);
    }

    private static void wrongOnes() {
        FreightShare desk = Probe.told(PLACES + "truck 1 7;load 1 0 1;trip 0 none 0 on 0 to 1 off 0;");
        int[][] none = {{1, 0}, {0, 1}, {-2, 0}, {0, -1}, {-1, 1}, {-1, -1}, {16, 0}, {Integer.MIN_VALUE, 0},
            {Integer.MAX_VALUE, 0}, {0, Integer.MAX_VALUE}};
        for (int[] pair : none) {
            Probe.due("share " + pair[0] + " " + pair[1], desk.share(pair[0], pair[1]), -1);
        }
        FreightShare empty = Probe.told(PLACES + "truck 1 7;");
        Probe.due("open without loads", empty.share(-1, 0), -1);
    }
}
