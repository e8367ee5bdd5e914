import java.util.List;

/** Promises 19 to 22: for each of their sentences that names a bound, a test of its own. */
public final class ChangeEdgeTest {
    private static final String TEXT = "desk 10;place 0 0;place 0 10;truck 50 40;truck 1 9;load 4 0 1;load 6 0 1;"
            + "trip 0 none 0 on 0 on 1 to 1 off 0 off 1;trip 0 15 1 to 0;trip 1 0 0;";
    private static final String FULL = "desk 10;place 0 0;place 0 10;" + "truck 50 40;".repeat(4) + "load 4 0 1;".repeat(16)
            + "trip 3 5 0;".repeat(16);

    private ChangeEdgeTest() {
    }

    public static void main(String[] args) {
        fuelAtItsBounds();
        fuelNotTold();
        fuelRefused();
        fuelThatItIs();
        buyAtItsBounds();
        buyRefused();
        buyThatItIs();
        weighAtItsBounds();
        weighRefused();
        weighThatItIs();
        changesTellAllAnew();
        refusedOnesChangeNothing();
        undoOfNone();
        undoTakesTheLatest();
        undoOfEachKind();
        undoLeavesRefusedOnes();
        undoKeepsTwelve();
        undoFillsUpAgain();
        undoIsNotUndone();
        undoAheadOfAText();
        Probe.finish();
    }

    private interface Change {
        int make(FreightShare desk, int which, int v);
    }

    /** -2 for the numbers beyond the last one, of a full desk too, and for a v that is not from least to most. */
    private static void refused(String name, int last, int lastOfFull, int least, int most, Change change) {
        FreightShare desk = Probe.told(TEXT);
        for (int which : Probe.outside(0, last)) {
            Probe.due(name + " " + which + " 1", change.make(desk, which, 1), -2);
            Probe.due(name + " " + which + " " + least, change.make(desk, which, least), -2);
        }
        for (int v : Probe.outside(least, most)) {
            Probe.due(name + " 0 " + v, change.make(desk, 0, v), -2);
            Probe.due(name + " " + last + " " + v, change.make(desk, last, v), -2);
        }
        Probe.due(name + ": none to undo", desk.now(10), 0);
        Probe.due(name + ": one more than all", change.make(Probe.told(FULL), lastOfFull + 1, 1), -2);
        Probe.due(name + ": nothing told", change.make(new FreightShare(), 0, 1), -2);
    }

    /** -2 for what a desk's second one is: as told, and as told anew; both are not kept. */
    private static void refusedAsItIs(String name, int told, int anew, Change change) {
        FreightShare desk = Probe.told(TEXT);
        Probe.due(name + " as told", change.make(desk, 1, told), -2);
        Probe.due(name + " anew", change.make(desk, 1, anew), told);
        Probe.due(name + " as it is now", change.make(desk, 1, anew), -2);
        Probe.due(name + " as it was", change.make(desk, 1, told), anew);
        Probe.due(name + ": two to undo", desk.now(10), 2);
    }

    private static void fuelAtItsBounds() {
        Probe.sentence("FUEL of a TRIP is v (0 to 9999; NONE: not told): what it was.");
        FreightShare desk = Probe.told(TEXT);
        Probe.due("0, it was not told", desk.fuel(0, 0), -1);
        Probe.due("fuel 0", Probe.trip(desk, 0, 1), 0);
        Probe.due("9999, it was 0", desk.fuel(0, 9999), 0);
        Probe.due("fuel 9999", Probe.trip(desk, 0, 1), 9999);
        Probe.due("1, it was 9999", desk.fuel(0, 1), 9999);
        Probe.due("the last trip", desk.fuel(2, 7), 0);
        Probe.due("fuel of the last", Probe.trip(desk, 2, 1), 7);
        Probe.due("fuel of another", Probe.trip(desk, 1, 1), 15);
        FreightShare full = Probe.told(FULL);
        Probe.due("the sixteenth", full.fuel(15, 6), 5);
        Probe.due("fuel of the sixteenth", Probe.trip(full, 15, 1), 6);
    }

    private static void fuelNotTold() {
        FreightShare desk = Probe.told(TEXT);
        Probe.due("none, it was 15", desk.fuel(1, -1), 15);
        Probe.due("not told", Probe.trip(desk, 1, 1), -1);
        Probe.due("told of the truck", desk.truck(0, 5), 0);
        Probe.due("an estimate then", Probe.trip(desk, 1, 6), 5);
        Probe.due("closed in halves", Probe.trip(desk, 0, 7), 20);
    }

    private static void fuelRefused() {
        Probe.sentence("-2: no such one, v, it is that.");
        refused("fuel", 2, 15, -1, 9999, FreightShare::fuel);
    }

    private static void fuelThatItIs() {
        refusedAsItIs("fuel", 15, 16, FreightShare::fuel);
        refusedAsItIs("fuel not told", 15, -1, FreightShare::fuel);
        FreightShare desk = Probe.told(TEXT);
        Probe.due("not told, as it is", desk.fuel(0, -1), -2);
        Probe.due("0, as it is", desk.fuel(2, 0), -2);
    }

    private static void buyAtItsBounds() {
        Probe.sentence("BOUGHT of a TRUCK is v (0 to 9999): what it was.");
        FreightShare desk = Probe.told(TEXT);
        Probe.due("0, it was 40", desk.buy(0, 0), 40);
        Probe.due("bought 0", desk.truck(0, 1), 0);
        Probe.due("9999, it was 0", desk.buy(0, 9999), 0);
        Probe.due("bought 9999", desk.truck(0, 1), 9999);
        Probe.due("the last, it was 9", desk.buy(1, 1), 9);
        Probe.due("all", desk.now(5), 10000);
        FreightShare full = Probe.told(FULL);
        Probe.due("the fourth", full.buy(3, 41), 40);
        Probe.due("bought of the fourth", full.truck(3, 1), 41);
    }

    private static void buyRefused() {
        Probe.sentence("-2: no such ones, it is that.");
        refused("buy", 1, 3, 0, 9999, FreightShare::buy);
    }

    private static void buyThatItIs() {
        refusedAsItIs("buy", 9, 0, FreightShare::buy);
    }

    private static void weighAtItsBounds() {
        Probe.sentence("WEIGHT of a LOAD is v (1 to 99): what it was.");
        FreightShare desk = Probe.told(TEXT);
        Probe.due("1, it was 4", desk.weigh(0, 1), 4);
        Probe.due("weight 1", Probe.load(desk, 0, 0), 1);
        Probe.due("99, it was 1", desk.weigh(0, 99), 1);
        Probe.due("weight 99", Probe.load(desk, 0, 0), 99);
        Probe.due("the last, it was 6", desk.weigh(1, 2), 6);
        Probe.due("parts of both", Probe.trip(desk, 0, 5), 990 + 20);
        FreightShare full = Probe.told(FULL);
        Probe.due("the sixteenth", full.weigh(15, 5), 4);
        Probe.due("weight of the sixteenth", Probe.load(full, 15, 0), 5);
    }

    private static void weighRefused() {
        Probe.sentence("-2: no such ones, it is that.");
        refused("weigh", 1, 15, 1, 99, FreightShare::weigh);
    }

    private static void weighThatItIs() {
        refusedAsItIs("weigh", 6, 99, FreightShare::weigh);
    }

    private static void changesTellAllAnew() {
        // A desk whose numbers were told anew answers as one that was told them at first, but for what can be undone.
        FreightShare desk = Probe.told(TEXT);
        desk.fuel(0, 12);
        desk.fuel(1, -1);
        desk.buy(0, 77);
        desk.weigh(1, 9);
        List<String> got = Probe.answers(desk);
        FreightShare told = Probe.told(TEXT.replace("trip 0 none", "trip 0 12").replace("trip 0 15", "trip 0 none")
                .replace("truck 50 40", "truck 50 77").replace("load 6", "load 9"));
        List<String> want = Probe.answers(told);
        want.set(10, "now 10: 4");
        Probe.same("told anew", got, want);
    }

    private static void refusedOnesChangeNothing() {
        Probe.sentence("-2: no such one, v, it is that.");
        FreightShare desk = Probe.told(TEXT);
        desk.weigh(0, 5);
        desk.fuel(1, 16);
        List<String> before = Probe.answers(desk);
        desk.fuel(0, -2);
        desk.fuel(0, 10000);
        desk.fuel(3, 5);
        desk.fuel(1, 16);
        desk.buy(0, -1);
        desk.buy(0, 10000);
        desk.buy(2, 5);
        desk.buy(0, 40);
        desk.weigh(0, 0);
        desk.weigh(0, 100);
        desk.weigh(2, 5);
        desk.weigh(0, 5);
        Probe.same("the desk behind refused calls", Probe.answers(desk), before);
        Probe.due("undo", desk.undo(), 1);
        Probe.due("fuel", Probe.trip(desk, 1, 1), 15);
        Probe.due("undo again", desk.undo(), 0);
        Probe.due("weight", Probe.load(desk, 0, 0), 4);
    }

    private static void undoOfNone() {
        Probe.sentence("NONE: none is.");
        Probe.due("nothing told", new FreightShare().undo(), -1);
        FreightShare desk = Probe.told(TEXT);
        List<String> before = Probe.answers(desk);
        Probe.due("nothing done", desk.undo(), -1);
        Probe.due("nothing done still", desk.undo(), -1);
        Probe.same("the desk behind undo()", Probe.answers(desk), before);
        desk.buy(0, 1);
        Probe.due("one", desk.undo(), 0);
        Probe.due("none any more", desk.undo(), -1);
    }

    private static void undoTakesTheLatest() {
        Probe.sentence("The latest fuel(), buy(), weigh() that was not -2 is undone: how many more can be");
        FreightShare desk = Probe.told(TEXT);
        desk.buy(0, 1);
        desk.buy(1, 2);
        desk.buy(0, 3);
        Probe.due("undo the third", desk.undo(), 2);
        Probe.due("truck 0", desk.truck(0, 1), 1);
        Probe.due("undo the second", desk.undo(), 1);
        Probe.due("truck 1", desk.truck(1, 1), 9);
        Probe.due("truck 0 still", desk.truck(0, 1), 1);
        Probe.due("undo the first", desk.undo(), 0);
        Probe.due("truck 0 as told", desk.truck(0, 1), 40);
    }

    private static void undoOfEachKind() {
        // Like numbers of trip, truck and load, so that one kind taken for another shows.
        FreightShare desk = Probe.told(TEXT);
        List<String> before = Probe.answers(desk);
        desk.fuel(1, 3);
        desk.buy(1, 3);
        desk.weigh(1, 3);
        desk.fuel(1, -1);
        Probe.due("undo a fuel not told", desk.undo(), 3);
        Probe.due("fuel", Probe.trip(desk, 1, 1), 3);
        Probe.due("undo a weight", desk.undo(), 2);
        Probe.due("weight", Probe.load(desk, 1, 0), 6);
        Probe.due("undo what was bought", desk.undo(), 1);
        Probe.due("bought", desk.truck(1, 1), 9);
        Probe.due("undo a fuel", desk.undo(), 0);
        Probe.same("the desk as told", Probe.answers(desk), before);
    }

    private static void undoLeavesRefusedOnes() {
        Probe.sentence("that was not -2 is undone");
        FreightShare desk = Probe.told(TEXT);
        desk.buy(0, 41);
        desk.buy(0, 41);
        desk.buy(0, 10000);
        desk.weigh(0, 0);
        desk.fuel(0, -1);
        Probe.due("one alone", desk.now(10), 1);
        Probe.due("undo", desk.undo(), 0);
        Probe.due("bought", desk.truck(0, 1), 40);
    }

    /** The k-th of a run of changes of all kinds, from 0; each is another number than the one ahead. */
    private static int change(FreightShare desk, int k) {
        switch (k % 5) {
            case 0: return desk.buy(1, 100 + k);
            case 1: return desk.weigh(0, 10 + k);
            case 2: return desk.fuel(2, 200 + k);
            case 3: return desk.weigh(1, 30 + k);
            default: return desk.fuel(0, 300 + k);
        }
    }

    /** The desk as it is behind so many of these changes. */
    private static List<String> after(int changes, int undone) {
        FreightShare desk = Probe.told(TEXT);
        for (int k = 0; k < changes; k++) {
            change(desk, k);
        }
        List<String> all = Probe.answers(desk);
        all.set(10, "now 10: " + undone);
        return all;
    }

    private static void undoKeepsTwelve() {
        Probe.sentence("(12 at most are kept)");
        for (int changes : new int[] {11, 12, 13, 14, 25, 40}) {
            FreightShare desk = Probe.told(TEXT);
            for (int k = 0; k < changes; k++) {
                Probe.due("change " + k, change(desk, k) != -2, true);
                Probe.due("kept of " + (k + 1), desk.now(10), Math.min(12, k + 1));
            }
            int kept = Math.min(12, changes);
            for (int left = kept - 1; left >= 0; left--) {
                Probe.due("of " + changes + " to " + left, desk.undo(), left);
            }
            Probe.same(changes + " changes, all undone that can be", Probe.answers(desk), after(changes - kept, 0));
            Probe.due("no more", desk.undo(), -1);
        }
        // Step by step, so that each is the right one.
        FreightShare desk = Probe.told(TEXT);
        for (int k = 0; k < 13; k++) {
            change(desk, k);
        }
        desk.undo();
        Probe.same("the thirteenth undone", Probe.answers(desk), after(12, 11));
        desk.undo();
        Probe.same("the twelfth undone", Probe.answers(desk), after(11, 10));
    }

    private static void undoFillsUpAgain() {
        FreightShare desk = Probe.told(TEXT);
        for (int k = 0; k < 14; k++) {
            change(desk, k);
        }
        Probe.due("undo", desk.undo(), 11);
        Probe.due("undo again", desk.undo(), 10);
        for (int k = 12; k < 15; k++) {
            change(desk, k);
        }
        // The changes 0 to 2 were let go: 3 to 14 can be undone.
        Probe.due("full", desk.now(10), 12);
        for (int left = 11; left >= 0; left--) {
            Probe.due("to " + left, desk.undo(), left);
        }
        Probe.same("three stay", Probe.answers(desk), after(3, 0));
    }

    private static void undoIsNotUndone() {
        FreightShare desk = Probe.told(TEXT);
        desk.weigh(0, 50);
        Probe.due("undo", desk.undo(), 0);
        Probe.due("not undone", desk.undo(), -1);
        Probe.due("told again", desk.weigh(0, 50), 4);
        Probe.due("undone again", desk.undo(), 0);
        Probe.due("weight", Probe.load(desk, 0, 0), 4);
    }

    private static void undoAheadOfAText() {
        Probe.sentence("nothing can be undone");
        FreightShare desk = Probe.told(TEXT);
        for (int k = 0; k < 13; k++) {
            change(desk, k);
        }
        Probe.tell(desk, "#");
        Probe.due("behind a fault", desk.now(10), 12);
        Probe.due("undo behind a fault", desk.undo(), 11);
        Probe.tell(desk, TEXT);
        Probe.due("behind a text", desk.undo(), -1);
        Probe.same("as told", Probe.answers(desk), after(0, 0));
        desk.buy(0, 1);
        Probe.tell(desk, "");
        Probe.due("behind an empty one", desk.undo(), -1);
    }
}
