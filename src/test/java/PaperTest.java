/** Promises 16 to 18: split, without, dearest. */
public final class PaperTest {
    private static final String PLACES = "desk 1;place 0 0;place 0 10;place 0 0;";
    private static final String TEXT = PLACES + "truck 1 10;truck 1 7;load 4 0 1;load 3 0 1;load 2 1 0;"
            + "trip 0 1 0 on 0 on 1 to 1 off 0 off 1;";

    private PaperTest() {
    }

    public static void main(String[] args) {
        splits();
        splitChangesNothing();
        splitsNoneSuch();
        withouts();
        withoutMovesIdleTrips();
        withoutsNoneSuch();
        dearestTrip();
        Probe.finish();
    }

    private static void splits() {
        FreightShare desk = Probe.told(TEXT);
        // Trip: 10 by 40 and 30 is 6 and 4; open: 7 by 4, 3, 2 of 9 is 3, 2, 2.
        Probe.due("share 0", Probe.load(desk, 0, 6), 9);
        // By 1: 10 by 1, 3, 3 is 1.43, 4.29, 4.29: 2, 4, 4; 7 by 1, 3, 2, 3 of 9 is 0.78, 2.33, 1.56, 2.33: 1, 2, 2, 2.
        Probe.due("split 0 1 both", desk.split(0, 1, 0), 2 + 1 + 4 + 2);
        Probe.due("split 0 1 one", desk.split(0, 1, 1), 2 + 1);
        // By 3: 10 by 3, 3, 1 is 4.29, 4.29, 1.43: 4, 4, 2; 7 by 3, 3, 2, 1 is 2.33, 2.33, 1.56, 0.78: 2, 2, 2, 1.
        Probe.due("split 0 3 both", desk.split(0, 3, 0), 4 + 2 + 2 + 1);
        Probe.due("split 0 3 one", desk.split(0, 3, 1), 4 + 2);
        // By 2: like halves, and what is left goes to the one with its number first.
        FreightShare halves = Probe.told(PLACES + "truck 1 5;load 4 0 1;trip 0 1 0 on 0 to 1 off 0;");
        Probe.due("half", halves.split(0, 2, 1), 3);
        Probe.due("both halves", halves.split(0, 2, 0), 5);
        StringBuilder many = new StringBuilder(PLACES + "truck 1 100;");
        many.append("load 10 0 1;".repeat(15));
        FreightShare fifteen = Probe.told(many.toString());
        // 6.67 of each, 6 of weight 9, 0.67 of weight 1; what is left goes to the first ten.
        Probe.due("fifteen loads", fifteen.split(14, 9, 1), 6);
        Probe.due("fifteen loads, both", fifteen.split(14, 9, 0), 6);
    }

    private static void splitChangesNothing() {
        FreightShare desk = Probe.told(TEXT);
        desk.split(0, 1, 0);
        desk.without(0, 1);
        Probe.due("loads", desk.now(3), 3);
        Probe.due("weight", Probe.load(desk, 0, 0), 4);
        Probe.due("share", Probe.load(desk, 0, 6), 9);
        Probe.due("share of the trip", desk.share(0, 1), 4);
        Probe.due("undo", desk.now(10), 0);
        Probe.due("split is of what was weighed", desk.weigh(0, 2), 4);
        Probe.due("split beyond", desk.split(0, 2, 0), -1);
        Probe.due("split", desk.split(0, 1, 0) > 0, true);
    }

    private static void splitsNoneSuch() {
        FreightShare desk = Probe.told(TEXT + "load 1 0 1;");
        int[][] none = {{-1, 1, 0}, {4, 1, 0}, {0, 0, 0}, {0, 4, 0}, {0, -1, 0}, {0, 99, 0}, {0, 1, -1}, {0, 1, 2},
            {3, 1, 0}, {3, 0, 0}, {Integer.MAX_VALUE, 1, 0}, {0, Integer.MAX_VALUE, 0}, {0, 1, Integer.MIN_VALUE}};
        for (int[] call : none) {
            Probe.due("split " + call[0] + " " + call[1] + " " + call[2],
                    desk.split(call[0], call[1], call[2]), -1);
        }
        FreightShare full = Probe.told(PLACES + "truck 1 100;" + "load 10 0 1;".repeat(16));
        Probe.due("sixteen loads", full.split(0, 1, 0), -1);
    }

    private static void withouts() {
        FreightShare desk = Probe.told(TEXT);
        // Trip: 10 to load 1 alone; open: 7 by 3 and 2 is 4.2 and 2.8.
        Probe.due("without 0, of 1", desk.without(0, 1), 14);
        Probe.due("without 0, of 2", desk.without(0, 2), 3);
        Probe.due("without 1, of 0", desk.without(1, 0), 10 + 5);
        // Without the load that is on no trip open alone changes: 7 by 4 and 3.
        Probe.due("without 2, of 0", desk.without(2, 0), 6 + 4);
        // If all measures are 0 the first has all, and it is still the first, if of weight 0.
        FreightShare alike = Probe.told(PLACES + "truck 1 10;load 4 0 2;load 3 0 2;");
        Probe.due("all 0, the first is without", alike.without(0, 1), 0);
        Probe.due("all 0, the first bears", alike.without(1, 0), 10);
    }

    private static void withoutMovesIdleTrips() {
        FreightShare desk = Probe.told(PLACES + "truck 1 30;load 1 0 1;load 2 0 1;load 7 1 0;"
                + "trip 0 10 0 on 0 to 1 off 0;trip 0 20 0 on 1 to 1 off 1;");
        Probe.due("with", Probe.load(desk, 1, 6), 20);
        Probe.due("without 0 its trip is idle", desk.without(0, 1), 30);
        Probe.due("without 1 its trip is idle", desk.without(1, 0), 30);
        FreightShare one = Probe.told(PLACES + "truck 1 30;load 1 0 1;load 2 0 1;load 1 1 0;"
                + "trip 0 10 0 on 0 to 1 off 0;");
        Probe.due("without 0 all is open", one.without(0, 1), 20);
        Probe.due("without 0 all is open to others", one.without(0, 2), 10);
    }

    private static void withoutsNoneSuch() {
        FreightShare desk = Probe.told(TEXT);
        int[][] none = {{0, 0}, {2, 2}, {-1, 0}, {0, -1}, {3, 0}, {0, 3}, {Integer.MIN_VALUE, 0},
            {0, Integer.MAX_VALUE}};
        for (int[] pair : none) {
            Probe.due("without " + pair[0] + " " + pair[1], desk.without(pair[0], pair[1]), -1);
        }
    }

    private static void dearestTrip() {
        String text = PLACES + "truck 1 30;truck 1 100;load 1 0 1;load 2 0 1;"
                + "trip 1 100 0 to 1;trip 0 10 0 on 0 to 1 off 0;trip 0 20 0 on 1 to 1 off 1;trip 0 0 1 to 0;";
        FreightShare desk = Probe.told(text);
        Probe.due("of like ones the first", desk.dearest(), 1);
        desk.fuel(2, 21);
        desk.buy(0, 31);
        Probe.due("closed", Probe.trip(desk, 2, 8), 21);
        Probe.due("dearer by a little", desk.dearest(), 2);
        desk.fuel(2, 20);
        desk.fuel(3, 1);
        Probe.due("with what an idle one brings", desk.dearest(), 2);
        desk.buy(0, 0);
        Probe.due("nothing to part", desk.dearest(), 1);
        Probe.due("idle ones alone", Probe.told(PLACES + "truck 1 30;load 1 0 2;trip 0 1 0 to 1;"
                + "trip 0 1 0 on 0 to 2 off 0;").dearest(), -1);
        Probe.due("no trips", Probe.told(PLACES).dearest(), -1);
        // 9999 by 2 and 9998 by 2: fractions that a whole number would not tell apart.
        Probe.due("close ones", Probe.told(PLACES + "truck 1 9998;truck 1 9999;load 99 0 1;"
                + "trip 0 1 0 on 0 to 1 off 0;trip 1 1 0 on 0 to 1 off 0;").dearest(), 1);
    }
}
