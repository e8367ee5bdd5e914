import java.util.List;

/** SPLIT and WITHOUT, promises 16 and 17: for each sentence that names a bound, a test of its own. */
public final class PaperEdgeTest {
    /** Places 0 and 2 lie alike. */
    private static final String PLACES = "desk 1;place 0 0;place 0 10;place 0 0;";
    private static final String TEXT = PLACES + "truck 1 10;truck 1 7;load 4 0 1;load 3 0 1;load 1 1 0;"
            + "trip 0 1 0 on 0 on 1 to 1 off 0 off 1;trip 0 1 1 on 0 to 0 off 0;";

    /** Each load on other trips than the others. */
    private static final String RELAY = PLACES + "truck 1 50;truck 1 70;load 4 0 1;load 3 0 1;load 8 1 0;"
            + "trip 0 10 0 on 0 to 1 off 0;trip 0 30 0 on 0 on 1 to 1 off 0 off 1;trip 1 40 1 on 2 to 0 off 2;";

    private PaperEdgeTest() {
    }

    public static void main(String[] args) {
        splitIsOnPaper();
        splitNumbers();
        splitOnAllTrips();
        splitOfNoSuchLoad();
        splitOfNoSuchWhat();
        splitOfNoSuchWeight();
        splitOfSixteen();
        withoutIsOnPaper();
        withoutOnNoTrip();
        withoutOfWeightZero();
        withoutOfNoSuchOnes();
        withoutAlike();
        oneBehindAnother();
        Probe.finish();
    }

    private static void splitIsOnPaper() {
        Probe.sentence("On paper: SPLIT of a LOAD by w: were it two");
        FreightShare desk = Probe.told(TEXT);
        desk.buy(1, 8);
        List<String> before = Probe.answers(desk);
        for (int w = -1; w <= 5; w++) {
            desk.split(0, w, 0);
            desk.split(0, w, 1);
            desk.split(1, w, 1);
        }
        Probe.same("the desk behind split()", Probe.answers(desk), before);
        Probe.due("undo", desk.undo(), 0);
        Probe.due("bought", desk.truck(1, 1), 7);
    }

    private static void splitNumbers() {
        Probe.sentence("one of WEIGHT w with its number, one of the rest, with the next number behind all");
        // 5 by 2 and 2: what is left goes to the one with its number.
        FreightShare one = Probe.told(PLACES + "truck 1 5;load 4 0 1;");
        Probe.due("half", one.split(0, 2, 1), 3);
        Probe.due("both halves", one.split(0, 2, 0), 5);
        Probe.due("by 1", one.split(0, 1, 1), 1);
        Probe.due("by 3", one.split(0, 3, 1), 4);
        // 2 by 1, 1 and 1: the one of the rest is behind load 1, and has nothing.
        FreightShare two = Probe.told(PLACES + "truck 1 2;load 2 0 1;load 1 0 1;");
        Probe.due("share", Probe.load(two, 0, 6), 1);
        Probe.due("of w", two.split(0, 1, 1), 1);
        Probe.due("both", two.split(0, 1, 0), 1);
        // 1 by 1, 1 and 1: the one with its number, if it is the first.
        FreightShare last = Probe.told(PLACES + "truck 1 1;load 1 0 1;load 2 0 1;");
        Probe.due("the last: of w", last.split(1, 1, 1), 0);
        Probe.due("the last: both", last.split(1, 1, 0), 0);
        // The least and the most w of a heavy one.
        FreightShare heavy = Probe.told(PLACES + "truck 1 99;load 99 0 1;");
        Probe.due("of 1", heavy.split(0, 1, 1), 1);
        Probe.due("of 98", heavy.split(0, 98, 1), 98);
    }

    private static void splitOnAllTrips() {
        Probe.sentence("both on all TRIPS on which it is");
        // Each trip is closed to 5. Trip 0 by 1, 3, 3: 0.71, 2.14, 2.14 is 1, 2, 2; trip 1 by 1, 3: 1.25, 3.75 is 1, 4.
        // Open 7 by 1, 3, 1, 3: 0.875, 2.625, 0.875, 2.625 is 1, 3, 1, 2.
        FreightShare desk = Probe.told(TEXT);
        Probe.due("of w", desk.split(0, 1, 1), 1 + 1 + 1);
        Probe.due("both", desk.split(0, 1, 0), 3 + 2 + 4 + 2);
        // An idle trip is idle on paper too, and what is closed to it goes the same way.
        FreightShare idle = Probe.told(PLACES + "truck 1 10;load 4 0 1;load 4 0 1;"
                + "trip 0 6 0 on 0 to 1 to 2 off 0;trip 0 4 0 on 1 to 1 off 1;");
        Probe.due("idle: both", idle.split(0, 2, 0), 0);
        Probe.due("of the other: both", idle.split(1, 1, 0), 10);
        Probe.due("of the other: of w", idle.split(1, 1, 1), 3);
    }

    private static void splitOfNoSuchLoad() {
        Probe.sentence("NONE: no such LOAD, what, w not 1 to WEIGHT less 1, there are 16 LOADS.");
        FreightShare desk = Probe.told(TEXT);
        for (int load : Probe.outside(0, 2)) {
            Probe.due("split " + load + " 1 0", desk.split(load, 1, 0), -1);
            Probe.due("split " + load + " 0 0", desk.split(load, 0, 0), -1);
        }
        Probe.due("nothing told", new FreightShare().split(0, 1, 0), -1);
        Probe.due("no loads", Probe.told(PLACES).split(0, 1, 0), -1);
    }

    private static void splitOfNoSuchWhat() {
        FreightShare desk = Probe.told(TEXT);
        for (int what : Probe.outside(0, 1)) {
            Probe.due("split 0 1 " + what, desk.split(0, 1, what), -1);
            Probe.due("split 0 0 " + what, desk.split(0, 0, what), -1);
        }
    }

    private static void splitOfNoSuchWeight() {
        FreightShare desk = Probe.told(TEXT);
        for (int w : Probe.outside(1, 3)) {
            Probe.due("split 0 " + w + " 0", desk.split(0, w, 0), -1);
            Probe.due("split 0 " + w + " 1", desk.split(0, w, 1), -1);
        }
        Probe.due("the most", desk.split(0, 3, 0) >= 0, true);
        Probe.due("weight 3 by 2", desk.split(1, 2, 0) >= 0, true);
        Probe.due("weight 3 by 3", desk.split(1, 3, 0), -1);
        for (int w = 0; w <= 2; w++) {
            Probe.due("weight 1 by " + w, desk.split(2, w, 0), -1);
        }
        desk.weigh(2, 2);
        Probe.due("weighed anew", desk.split(2, 1, 0) >= 0, true);
        desk.undo();
        Probe.due("undone", desk.split(2, 1, 0), -1);
    }

    private static void splitOfSixteen() {
        String text = PLACES + "truck 1 99;";
        FreightShare fifteen = Probe.told(text + "load 10 0 1;".repeat(15));
        // 99 by 10 of 150 is 6.6 and nine are left; 5 of 150 is 3.3.
        Probe.due("the first of fifteen", fifteen.split(0, 5, 1), 3);
        Probe.due("the last of fifteen", fifteen.split(14, 5, 0), 6);
        FreightShare sixteen = Probe.told(text + "load 10 0 1;".repeat(16));
        for (int load = 0; load < 16; load++) {
            Probe.due("sixteen: split " + load, sixteen.split(load, 5, 0), -1);
        }
    }

    private static void withoutIsOnPaper() {
        Probe.sentence("WITHOUT a LOAD: were it on no TRIP, and of WEIGHT 0.");
        FreightShare desk = Probe.told(TEXT);
        desk.buy(1, 8);
        List<String> before = Probe.answers(desk);
        for (int load = -1; load <= 3; load++) {
            for (int other = -1; other <= 3; other++) {
                desk.without(load, other);
            }
        }
        Probe.same("the desk behind without()", Probe.answers(desk), before);
        Probe.due("undo", desk.undo(), 0);
    }

    private static void withoutOnNoTrip() {
        FreightShare desk = Probe.told(TEXT);
        // Without 0 trip 1 is idle: 10 to load 1 by trip 0; open 7 by 3 and 1 is 5.25 and 1.75.
        Probe.due("without 0: 1", desk.without(0, 1), 10 + 5);
        Probe.due("without 0: 2", desk.without(0, 2), 2);
        // Without 1: all 10 to load 0; open 7 by 4 and 1 is 5.6 and 1.4.
        Probe.due("without 1: 0", desk.without(1, 0), 10 + 6);
        Probe.due("without 1: 2", desk.without(1, 2), 1);
        // Without both trips' only load all is open: 8 by 3 and 1.
        FreightShare alone = Probe.told(PLACES + "truck 1 8;load 9 0 1;load 3 0 1;load 1 0 1;"
                + "trip 0 1 0 on 0 to 1 off 0;trip 0 1 1 on 0 to 0 off 0;");
        Probe.due("with", Probe.load(alone, 1, 6), 0);
        Probe.due("all is open", alone.without(0, 1), 6);
        Probe.due("all is open to others", alone.without(0, 2), 2);
    }

    private static void withoutOfWeightZero() {
        // A measure of 0 of what is open: nothing goes to it, but if all are 0 the first has all.
        FreightShare desk = Probe.told(PLACES + "truck 1 9;load 9 0 1;load 1 0 1;");
        Probe.due("the other has all", desk.without(0, 1), 9);
        Probe.due("and the first", desk.without(1, 0), 9);
        FreightShare alike = Probe.told(PLACES + "truck 1 9;load 9 0 2;load 1 2 0;load 1 0 2;");
        Probe.due("all 0, without the first", alike.without(0, 1), 0);
        Probe.due("all 0, without the second", alike.without(1, 0), 9);
        Probe.due("all 0, not the first", alike.without(1, 2), 0);
    }

    private static void withoutOfNoSuchOnes() {
        Probe.sentence("NONE: no such ones, alike.");
        FreightShare desk = Probe.told(TEXT);
        for (int load : Probe.outside(0, 2)) {
            Probe.due("without " + load + " 0", desk.without(load, 0), -1);
            Probe.due("without 0 " + load, desk.without(0, load), -1);
            Probe.due("without " + load + " of itself", desk.without(load, load), -1);
        }
        Probe.due("nothing told", new FreightShare().without(0, 1), -1);
        FreightShare one = Probe.told(PLACES + "load 1 0 1;");
        Probe.due("one load", one.without(0, 1), -1);
        Probe.due("one load, turned", one.without(1, 0), -1);
        FreightShare sixteen = Probe.told(PLACES + "truck 1 15;" + "load 10 0 1;".repeat(16));
        Probe.due("the last without the first", sixteen.without(0, 15), 1);
        Probe.due("the first without the last", sixteen.without(15, 0), 1);
        Probe.due("the seventeenth", sixteen.without(0, 16), -1);
    }

    private static void oneBehindAnother() {
        Probe.sentence("On paper");
        // What was on paper ahead, of the same load or another, is on none any more.
        for (int first = 0; first < 3; first++) {
            for (int second = 0; second < 3; second++) {
                FreightShare desk = Probe.told(RELAY);
                desk.split(first, 2, 0);
                Probe.due("split " + second + " behind split " + first,
                        desk.split(second, 1, 0), Probe.told(RELAY).split(second, 1, 0));
                desk.without(first, (first + 1) % 3);
                Probe.due("split " + second + " behind without " + first,
                        desk.split(second, 1, 1), Probe.told(RELAY).split(second, 1, 1));
                desk.split(first, 2, 1);
                int other = (second + 1) % 3;
                Probe.due("without " + second + " behind split " + first,
                        desk.without(second, other), Probe.told(RELAY).without(second, other));
            }
        }
    }

    private static void withoutAlike() {
        FreightShare desk = Probe.told(TEXT);
        for (int load = 0; load < 3; load++) {
            Probe.due("alike " + load, desk.without(load, load), -1);
        }
    }
}
