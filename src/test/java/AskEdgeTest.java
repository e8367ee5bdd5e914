/** Promises 6 to 15 and 18: for each of their sentences that names a bound, a test of its own. */
public final class AskEdgeTest {
    private static final int THROWS = Probe.THROWS;

    /** 3 places, 2 trucks, 3 loads, 4 trips, 5 gaps; load 2 is on no trip, trip 2 is idle. */
    private static final String TEXT = "desk 100;place 0 0;place 10 0;place 10 20;truck 45 100;truck 10 60;"
            + "load 5 0 2;load 2 1 0;load 7 2 1;"
            + "trip 0 none 0 on 0 to 1 off 0;trip 1 20 1 on 0 on 1 to 2 off 0 to 0 off 1;trip 0 30 2 to 0;"
            + "trip 1 none 1 on 1 to 2 off 1;";

    /** As many of each sort as can be; the last truck has all trips, the last load is on the last one. */
    private static final String FULL = "desk 999;" + "place 9 9;".repeat(11) + "place 0 9;"
            + "truck 9 9;".repeat(3) + "truck 99 9999;"
            + "load 9 0 11;".repeat(15) + "load 5 0 11;" + "trip 3 1 11;".repeat(14)
            + "trip 3 5 0 on 15 to 11 off 15;trip 3 7 11 on 15 to 10 off 15;";

    private AskEdgeTest() {
    }

    public static void main(String[] args) {
        nowOfAnotherWhat();
        nowOfNothing();
        nowOfTheMost();
        directOfNoSuchOnes();
        truckOfNoSuchOne();
        truckWithoutTrips();
        truckWithAllTrips();
        loadThrows();
        loadOnNoTrip();
        loadOnAllTrips();
        tripThrows();
        tripWithoutFuel();
        tripThatIsIdle();
        tripWithoutSteps();
        shareOfNothing();
        shareOfNoSuchOnes();
        gapOfNoSuchOnes();
        gapWhose();
        wayOfNoSuchOnes();
        busiestOfLikeOnes();
        busiestOfNone();
        hubOfNoSuchPlace();
        hubEachTime();
        dearestAsAFraction();
        dearestOfLikeOnes();
        dearestOfGreatNumbers();
        dearestOfNone();
        Probe.finish();
    }

    private interface Question {
        int ask(FreightShare desk, int which, int what);
    }

    /** What is due for no such one and for another what, on desks with some, with the most and with none. */
    private static void refused(String name, int counted, int mostWhat, int want, Question question) {
        for (String text : new String[] {TEXT, FULL, ""}) {
            FreightShare desk = Probe.told(text);
            int last = desk.now(counted) - 1;
            for (int which : Probe.outside(0, last)) {
                Probe.due(name + " " + which + " 0", question.ask(desk, which, 0), want);
                Probe.due(name + " " + which + " " + mostWhat, question.ask(desk, which, mostWhat), want);
            }
            for (int what : Probe.outside(0, mostWhat)) {
                Probe.due(name + " 0 " + what, question.ask(desk, 0, what), want);
                Probe.due("the last " + name + " " + what, question.ask(desk, last, what), want);
            }
        }
    }

    /** All that is due of one, from what 0 on. */
    private static void row(String name, Question question, FreightShare desk, int which, int... want) {
        for (int what = 0; what < want.length; what++) {
            Probe.due(name + ": " + which + " " + what, question.ask(desk, which, what), want[what]);
        }
    }

    private static void now(String name, FreightShare desk, int... want) {
        row(name, (asked, none, what) -> asked.now(what), desk, 0, want);
    }

    private static void truck(String name, FreightShare desk, int truck, int... want) {
        row(name, FreightShare::truck, desk, truck, want);
    }

    private static void load(String name, FreightShare desk, int load, int... want) {
        row(name, Probe::load, desk, load, want);
    }

    private static void trip(String name, FreightShare desk, int trip, int... want) {
        row(name, Probe::trip, desk, trip, want);
    }

    private static void nowOfAnotherWhat() {
        Probe.sentence("NONE for another what.");
        for (int what : Probe.outside(0, 11)) {
            Probe.due("new: now " + what, new FreightShare().now(what), -1);
            Probe.due("told: now " + what, Probe.told(TEXT).now(what), -1);
        }
    }

    private static void nowOfNothing() {
        Probe.sentence("0 RATE, 1 PLACES, 2 TRUCKS, 3 LOADS, 4 TRIPS, 5 BOUGHT of all TRUCKS, 6 SHARES of all LOADS, "
                + "7 what is OPEN, 8 HUBS (bits), 9 GAPS, 10 what can be undone, 11 bytes of the tape.");
        now("a desk alone", Probe.told("desk 0;"), 0, 0, 0, 0, 0, 0, 0, 0, 0, 0, 0, 0);
        now("places alone", Probe.told("desk 3;place 1 1;"), 3, 1, 0, 0, 0, 0, 0, 0, 0, 0, 0, 0);
        now("trucks alone", Probe.told("desk 3;truck 1 7;"), 3, 0, 1, 0, 0, 7, 0, 7, 0, 0, 0, 0);
        now("loads alone", Probe.told("desk 3;place 1 1;place 2 2;load 1 0 1;"), 3, 2, 0, 1, 0, 0, 0, 0, 0, 1, 0, 0);
    }

    private static void nowOfTheMost() {
        FreightShare desk = Probe.told(FULL);
        desk.buy(0, 0);
        desk.feed(0, 0, 0, 0, 0);
        // Gaps: of the truck one ahead of trip 14 (11 to 0), of loads one each.
        now("full", desk, 999, 12, 4, 16, 16, 10017, 10017, 18, 1 << 11, 1 + 16, 1, 20);
        for (int k = 1; k <= 13; k++) {
            desk.buy(0, k);
            Probe.due("can be undone", desk.now(10), Math.min(12, k + 1));
        }
        FreightShare bits = Probe.told("desk 1;" + "place 1 1;".repeat(12) + "truck 1 1;load 1 0 11;load 1 11 5;"
                + "trip 0 1 0 on 0 off 0;trip 0 1 0 on 0 to 11 off 0;"
                + "trip 0 1 11 on 0 on 1 to 5 off 0 off 1;trip 0 1 5 on 1 off 1;");
        Probe.due("the first, the last and one between", bits.now(8), 1 | 1 << 11 | 1 << 5);
        FreightShare bought = Probe.told("desk 1;" + "truck 1 9999;".repeat(4));
        Probe.due("most bought", bought.now(5), 39996);
        Probe.due("most open", bought.now(7), 39996);
    }

    private static void directOfNoSuchOnes() {
        Probe.sentence("DIRECT of two PLACES. NONE: no such ones.");
        for (String text : new String[] {TEXT, FULL, ""}) {
            FreightShare desk = Probe.told(text);
            int last = desk.now(1) - 1;
            for (int place : Probe.outside(0, last)) {
                Probe.due("direct " + place + " 0", desk.direct(place, 0), -1);
                Probe.due("direct 0 " + place, desk.direct(0, place), -1);
                Probe.due("direct of both " + place, desk.direct(place, place), -1);
            }
        }
        Probe.due("the last", Probe.told(TEXT).direct(2, 2), 0);
        Probe.due("the last of twelve", Probe.told(FULL).direct(11, 0), 9);
    }

    private static void truckOfNoSuchOne() {
        Probe.sentence("NONE: no such one, another what.");
        refused("truck", 2, 7, -1, FreightShare::truck);
        Probe.due("the last of two", Probe.told(TEXT).truck(1, 1), 60);
        Probe.due("the last of four", Probe.told(FULL).truck(3, 1), 9999);
    }

    private static void truckWithoutTrips() {
        Probe.sentence("6 where it is in the end (NONE: no TRIPS)");
        FreightShare desk = Probe.told("desk 1;place 0 0;place 0 10;truck 50 8;truck 50 9;"
                + "trip 1 none 0 to 1;trip 1 4 1;trip 1 2 0;");
        truck("no trips", desk, 0, 50, 8, 0, 0, 0, 0, -1, 0);
        truck("three trips", desk, 1, 50, 9, 7, 10, 10, 6, 0, 5 + 6);
        truck("a trip that goes nowhere", Probe.told("desk 1;place 0 0;place 0 10;truck 50 8;trip 0 none 1;"), 0,
                50, 8, 1, 0, 0, 0, 1, 0);
    }

    private static void truckWithAllTrips() {
        truck("all trips", Probe.told(FULL), 3, 99, 9999, 65535, 18, 0, 26, 10, 26);
    }

    private static void loadThrows() {
        Probe.sentence("NoSuchElementException: no such one, another what.");
        refused("load", 3, 9, THROWS, Probe::load);
        Probe.due("the last of three", Probe.load(Probe.told(TEXT), 2, 0), 7);
        Probe.due("the last of sixteen", Probe.load(Probe.told(FULL), 15, 0), 5);
    }

    private static void loadOnNoTrip() {
        Probe.sentence("0 WEIGHT, 1 FROM, 2 TO, 3 DIRECT of both, 4 its TRIPS (bits), 5 PARTS of all, 6 SHARE, 7 DUE, "
                + "8 how many GAPS, 9 LONG of all LEGS on which it was.");
        load("on no trip", Probe.told(TEXT), 2, 7, 2, 1, 20, 0, 0, 0, 14, 1, 0);
        // Trip 0: 70 and 30 of an idle one; trip 1: 20 by 100 and 20; one leg of 20.
        load("on two trips", Probe.told(TEXT), 0, 5, 0, 2, 30, 3, 150, 100 + 17, 0, 0, 30);
        load("on and off", Probe.told("desk 9;place 0 0;place 0 5;truck 1 1;load 3 0 1;trip 0 1 0 on 0 off 0 to 1;"), 0,
                3, 0, 1, 5, 1, 0, 1, 1, 1, 0);
    }

    private static void loadOnAllTrips() {
        FreightShare desk = Probe.told("desk 1;place 0 0;place 0 9;truck 1 160;load 4 0 1;load 1 0 1;"
                + "trip 0 1 0 on 1 to 1 off 1 to 0;".repeat(16));
        load("on all", desk, 1, 1, 0, 1, 9, 65535, 144, 160, 1, 15, 144);
        load("on none", desk, 0, 4, 0, 1, 9, 0, 0, 0, 1, 1, 0);
        load("the last of sixteen", Probe.told(FULL), 15, 5, 0, 11, 9, 3 << 14, 90, 9999 + 1, 45, 1, 18);
    }

    private static void tripThrows() {
        Probe.sentence("NoSuchElementException: no such one, another what.");
        refused("trip", 4, 11, THROWS, Probe::trip);
        Probe.due("the last of four", Probe.trip(Probe.told(TEXT), 3, 0), 1);
        Probe.due("the last of sixteen", Probe.trip(Probe.told(FULL), 15, 0), 3);
    }

    private static void tripWithoutFuel() {
        Probe.sentence("1 FUEL (NONE: not told)");
        // 45 times 10 by 100 is 4.5; of 100 bought 30 were told of trip 2, which is idle.
        trip("not told", Probe.told(TEXT), 0, 0, -1, 10, 0, 1, 50, 5, 70, 100, -1, 0, 1);
        trip("told", Probe.told(TEXT), 1, 1, 20, 50, 0, 3, 120, 20, 20, 20, -1, 1, 0);
        FreightShare zero = Probe.told("desk 1;place 0 0;truck 1 1;trip 0 0 0;trip 0 none 0;");
        Probe.due("0 told", Probe.trip(zero, 0, 1), 0);
        Probe.due("none told", Probe.trip(zero, 1, 1), -1);
    }

    private static void tripThatIsIdle() {
        Probe.sentence("8 what it PARTS to LOADS (IDLE: 0), "
                + "9 the TRIP to which an IDLE one's goes (NONE: OPEN, or it is not IDLE)");
        trip("idle", Probe.told(TEXT), 2, 0, 30, 30, 30, 0, 0, 30, 30, 0, 0, 2, 0);
        FreightShare open = Probe.told("desk 1;place 0 0;place 0 10;truck 1 8;load 1 0 1;trip 0 3 0 on 0 to 1 to 0 off 0;");
        trip("open", open, 0, 0, 3, 20, 0, 1, 0, 3, 8, 0, -1, 0, 0);
        FreightShare none = Probe.told("desk 1;place 0 0;place 0 10;truck 1 0;load 1 0 1;trip 0 3 1;trip 0 3 0 on 0 to 1 off 0;");
        trip("of nothing", none, 0, 0, 3, 0, 0, 0, 0, 3, 0, 0, 1, 1, 1);
        trip("with nothing", none, 1, 0, 3, 10, 0, 1, 10, 3, 0, 0, -1, 0, 1);
    }

    private static void tripWithoutSteps() {
        Probe.sentence("10 its first PLACE, 11 its last");
        trip("no steps", Probe.told("desk 1;place 0 0;place 0 10;truck 1 8;trip 0 none 1;"), 0,
                0, -1, 0, 0, 0, 0, 0, 8, 0, -1, 1, 1);
        trip("round", Probe.told("desk 1;place 0 0;place 0 10;truck 1 8;trip 0 none 1 to 0 to 1;"), 0,
                0, -1, 20, 20, 0, 0, 1, 8, 0, -1, 1, 1);
        trip("the last of sixteen", Probe.told(FULL), 15, 3, 7, 9, 0, 1 << 15, 45, 7, 2692, 2692, -1, 11, 10);
    }

    private static void shareOfNothing() {
        Probe.sentence("What a LOAD has of what a TRIP PARTS (of what is OPEN: TRIP NONE); 0: nothing.");
        FreightShare desk = Probe.told(TEXT);
        Probe.due("nothing is open", desk.share(-1, 0), 0);
        Probe.due("of its trip", desk.share(0, 0), 100);
        Probe.due("not on the trip", desk.share(0, 1), 0);
        Probe.due("on no trip", desk.share(1, 2), 0);
        Probe.due("of an idle trip", desk.share(2, 0), 0);
        Probe.due("a trip that parts nothing", Probe.told("desk 1;place 0 0;place 0 10;truck 1 0;load 1 0 1;"
                + "trip 0 3 0 on 0 to 1 off 0;").share(0, 0), 0);
        Probe.due("of what is open", Probe.told("desk 1;place 0 0;place 0 10;truck 1 9;load 1 0 1;").share(-1, 0), 9);
        FreightShare full = Probe.told(FULL);
        Probe.due("the last of the last", full.share(15, 15), 2692);
        Probe.due("the last of open", full.share(-1, 15), 1);
    }

    private static void shareOfNoSuchOnes() {
        Probe.sentence("0: nothing. NONE: no such ones.");
        for (String text : new String[] {TEXT, FULL, "", "desk 1;truck 1 5;"}) {
            FreightShare desk = Probe.told(text);
            for (int load : Probe.outside(0, desk.now(3) - 1)) {
                Probe.due("share 0 " + load, desk.share(0, load), -1);
                Probe.due("share -1 " + load, desk.share(-1, load), -1);
            }
            for (int trip : Probe.outside(-1, desk.now(4) - 1)) {
                Probe.due("share " + trip + " 0", desk.share(trip, 0), -1);
                Probe.due("share " + trip + " -1", desk.share(trip, -1), -1);
            }
        }
        FreightShare noTrips = Probe.told("desk 1;place 0 0;place 0 10;truck 1 9;load 1 0 1;");
        Probe.due("no trips", noTrips.share(0, 0), -1);
    }

    private static void gapOfNoSuchOnes() {
        Probe.sentence("NONE: none such, another what.");
        refused("gap", 9, 2, -1, FreightShare::gap);
    }

    private static void gapWhose() {
        Probe.sentence("0 whose (TRUCK, or 100 and a LOAD), 1 from, 2 to.");
        FreightShare desk = Probe.told(TEXT);
        int[][] want = {{0, 1, 2}, {1, 0, 1}, {101, 0, 1}, {101, 2, 0}, {102, 2, 1}};
        Probe.due("gaps", desk.now(9), want.length);
        for (int k = 0; k < want.length; k++) {
            for (int what = 0; what < 3; what++) {
                Probe.due("gap " + k + " " + what, desk.gap(k, what), want[k][what]);
            }
        }
        FreightShare full = Probe.told(FULL);
        Probe.due("the last truck", full.gap(0, 0), 3);
        Probe.due("the first load", full.gap(1, 0), 100);
        Probe.due("the last load", full.gap(16, 0), 115);
        Probe.due("its from", full.gap(16, 1), 10);
        Probe.due("its to", full.gap(16, 2), 11);
    }

    private static void wayOfNoSuchOnes() {
        Probe.sentence("How often a WAY was gone. NONE: no such PLACES.");
        for (String text : new String[] {TEXT, FULL, ""}) {
            FreightShare desk = Probe.told(text);
            int places = desk.now(1);
            for (int place : Probe.outside(0, places - 1)) {
                Probe.due("way " + place + " 0", desk.way(place, 0), -1);
                Probe.due("way 0 " + place, desk.way(0, place), -1);
            }
            for (int place = 0; place < places; place++) {
                Probe.due("way of like ones " + place, desk.way(place, place), -1);
            }
        }
        Probe.due("never", Probe.told(TEXT).way(1, 0), 0);
        Probe.due("once", Probe.told(TEXT).way(0, 1), 1);
        Probe.due("the last", Probe.told(FULL).way(11, 10), 1);
    }

    private static void busiestOfLikeOnes() {
        Probe.sentence("The WAY most often gone: 100 times from and to; of like ones the least such");
        String places = "desk 1;" + "place 1 1;".repeat(12) + "truck 1 1;";
        String[] trips = {"11 to 0 to 11", "1 to 0", "11 to 10 to 9 to 8", "3 to 11 to 3 to 10 to 2", "5 to 6 to 5 to 6",
            "10 to 11 to 0", "0 to 1 to 2 to 1 to 2", "2 to 0 to 1 to 11"};
        int[] want = {11, 100, 908, 310, 506, 1011, 102, 1};
        for (int k = 0; k < trips.length; k++) {
            Probe.due("busiest of " + trips[k], Probe.told(places + "trip 0 1 " + trips[k] + ";").busiest(), want[k]);
        }
        // Legs of all trips together, of all trucks.
        Probe.due("two trips", Probe.told(places + "truck 1 1;trip 0 1 0 to 1;trip 1 1 7 to 3;trip 0 1 7 to 3;").busiest(), 703);
    }

    private static void busiestOfNone() {
        Probe.sentence("NONE: none.");
        String places = "desk 1;" + "place 1 1;".repeat(3) + "truck 1 1;";
        Probe.due("nothing told", new FreightShare().busiest(), -1);
        Probe.due("no trips", Probe.told(places).busiest(), -1);
        Probe.due("no legs", Probe.told(places + "trip 0 1 2;").busiest(), -1);
        Probe.due("legs of like ones", Probe.told(places + "trip 0 1 2 to 2 to 2;").busiest(), -1);
        Probe.due("one leg", Probe.told(places + "trip 0 1 2 to 2 to 1;").busiest(), 201);
    }

    private static void hubOfNoSuchPlace() {
        Probe.sentence("NONE: no such PLACE.");
        for (String text : new String[] {TEXT, FULL, ""}) {
            FreightShare desk = Probe.told(text);
            for (int place : Probe.outside(0, desk.now(1) - 1)) {
                Probe.due("hub " + place, desk.hub(place), -1);
            }
        }
        Probe.due("no hub", Probe.told(TEXT).hub(0), 0);
        Probe.due("a hub", Probe.told(TEXT).hub(1), 5);
        Probe.due("the last", Probe.told(FULL).hub(11), 5);
    }

    private static void hubEachTime() {
        Probe.sentence("WEIGHTS of LOADS that changed TRIPS at a PLACE as a HUB, each time they did, together.");
        FreightShare desk = Probe.told("desk 1;place 0 0;place 0 10;truck 1 1;load 99 0 1;load 2 0 1;"
                + "trip 0 1 0 on 0 on 1 to 1 off 0 off 1;trip 0 1 1 on 1 off 1;trip 0 1 1 on 0 on 1 to 0 off 1 to 1 off 0;"
                + "trip 0 1 1 on 0 off 0;trip 0 1 0 on 1 off 1;");
        Probe.due("hub 1", desk.hub(1), 99 + 2 + 2 + 99);
        Probe.due("hub 0", desk.hub(0), 2);
        desk.weigh(1, 50);
        Probe.due("weighed anew", desk.hub(1), 99 + 50 + 50 + 99);
    }

    private static void dearestAsAFraction() {
        Probe.sentence("the greatest of what it PARTS to LOADS by PARTS of all (as a fraction)");
        String text = "desk 1;place 0 0;place 0 10;truck 1 B;truck 1 C;load 7 0 1;load 9 0 1;"
                + "trip 0 1 0 on 0 to 1 off 0;trip 1 1 0 on 1 to 1 off 1;";
        // By 70 and 90: 7 and 9 are alike, whole numbers of all of them are 0.
        int[][] want = {{7, 9, 0}, {7, 10, 1}, {8, 9, 0}, {8, 10, 0}, {8, 11, 1}, {0, 1, 1}, {1, 0, 0}, {69, 89, 1}, {70, 89, 0}};
        for (int[] row : want) {
            String told = text.replace("B", Integer.toString(row[0])).replace("C", Integer.toString(row[1]));
            Probe.due("bought " + row[0] + " and " + row[1], Probe.told(told).dearest(), row[2]);
        }
        // With what an idle one brings, not by what it is closed to itself.
        Probe.due("with that", Probe.told("desk 1;place 0 0;place 0 10;truck 1 5;truck 1 4;load 7 0 1;"
                + "trip 1 1 0 on 0 to 1 off 0;trip 0 3 0 on 0 to 1 off 0;trip 0 2 1;").dearest(), 1);
    }

    private static void dearestOfLikeOnes() {
        Probe.sentence("of like ones the first");
        String text = "desk 1;place 0 0;place 0 10;truck 1 60;load 1 0 1;load 2 0 1;load 3 0 1;";
        String trips = "trip 0 9 0;trip 0 20 0 on 1 to 1 off 1;trip 0 10 0 on 0 to 1 off 0;trip 0 30 0 on 2 to 1 off 2;";
        Probe.due("alike", Probe.told(text + trips.replace("9 0", "0 0")).dearest(), 1);
        Probe.due("all 0", Probe.told(text.replace("60", "0") + trips).dearest(), 1);
    }

    private static void dearestOfGreatNumbers() {
        Probe.sentence("(as a fraction)");
        // One trip with sixteen loads (parts 313632), one with a single one; products are beyond 31 bits.
        String text = "desk 1;place 0 0;place 99 99;truck 1 1;truck 1 9999;" + "load 99 0 1;".repeat(16);
        String many = "trip 0 1 0" + Probe.steps("on", 16) + " to 1" + Probe.steps("off", 16) + ";";
        String one = "trip 1 1 0 on 3 to 1 off 3;";
        Probe.due("parts", Probe.trip(Probe.told(text + many + one), 0, 5), 313632);
        Probe.due("the second", Probe.told(text + many + one).dearest(), 1);
        Probe.due("the first", Probe.told(text + one + many).dearest(), 0);
    }

    private static void dearestOfNone() {
        Probe.sentence("NONE: none is not IDLE.");
        String text = "desk 1;place 0 0;place 0 10;truck 1 60;load 1 0 1;";
        Probe.due("nothing told", new FreightShare().dearest(), -1);
        Probe.due("no trips", Probe.told(text).dearest(), -1);
        Probe.due("idle ones", Probe.told(text + "trip 0 1 0 to 1;trip 0 1 0 on 0 off 0;"
                + "trip 0 1 0 on 0 to 1 to 0 off 0;").dearest(), -1);
        Probe.due("one that is not", Probe.told(text + "trip 0 1 0 to 1;trip 0 1 0 on 0 to 1 off 0;").dearest(), 1);
        FreightShare after = Probe.told(text + "trip 0 1 0 on 0 to 1 off 0;");
        Probe.tell(after, text);
        Probe.due("no trips behind a text with one", after.dearest(), -1);
    }
}
