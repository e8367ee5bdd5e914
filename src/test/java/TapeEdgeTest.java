import java.util.List;

/** Promises 1 to 5: for each of their sentences that names a bound, a test of its own. */
public final class TapeEdgeTest {
    private static final String SMALL = "desk 7;place 0 0;place 3 4;truck 5 60;load 2 0 1;trip 0 none 0 on 0 to 1 off 0;";
    /** Unlike the small one in all that is told, and with more of each sort. */
    private static final String OTHER = "desk 30;place 9 9;place 2 9;place 2 1;truck 50 70;truck 20 900;"
            + "load 8 1 2;load 5 0 2;load 9 2 0;"
            + "trip 1 none 0 on 1 to 1 off 1 on 0 to 2 off 0;trip 0 12 1 on 1 to 2 off 1 to 0;trip 1 none 0 to 2;";
    /** As many of each sort as the other one, with hubs at all places. */
    private static final String HUBS = "desk 99;place 1 1;place 5 1;place 5 7;truck 8 800;truck 9 90;"
            + "load 1 0 2;load 2 1 2;load 3 2 1;"
            + "trip 0 5 0 on 0 on 2 to 2 off 0 off 2;trip 0 6 2 on 0 on 1 on 2 to 0 off 1 off 2 off 0;"
            + "trip 0 7 0 on 0 on 1 on 2 to 1 off 0 off 1 off 2;";
    /** As many again, with no load on a trip and no way gone. */
    private static final String STILL = "desk 8;place 0 0;place 0 9;place 9 9;truck 3 5;truck 4 6;"
            + "load 4 0 1;load 3 1 2;load 9 0 2;"
            + "trip 0 none 0;trip 0 none 0;trip 1 none 1;";
    private static final int BLANKS = 0x20202020;

    private TapeEdgeTest() {
    }

    public static void main(String[] args) {
        newObjectHasNothing();
        newObjectsAreApart();
        feedTakesTheHighestFirst();
        feedComesBehind();
        feedIsFullAt840();
        feedRefusedTakesNone();
        endKeepsTheFirst();
        endRefuses();
        textEmptiesTheTape();
        textThatIsEmpty();
        textForgetsWhatCanBeUndone();
        textForgetsWhatWasTold();
        textCountsLines();
        textWithAFaultAnswersItsPlace();
        textWithAFaultLeavesAll();
        faultAheadOfAny();
        faultOfTheLatest();
        Probe.finish();
    }

    private static void newObjectHasNothing() {
        Probe.sentence("No desk (RATE 0), nothing told; an empty tape.");
        FreightShare desk = new FreightShare();
        for (int what = 0; what <= 11; what++) {
            Probe.due("now " + what, desk.now(what), 0);
        }
        Probe.due("direct", desk.direct(0, 0), -1);
        Probe.due("truck", desk.truck(0, 0), -1);
        Probe.due("load", Probe.load(desk, 0, 0), Probe.THROWS);
        Probe.due("trip", Probe.trip(desk, 0, 0), Probe.THROWS);
        Probe.due("share", desk.share(0, 0), -1);
        Probe.due("share of what is open", desk.share(-1, 0), -1);
        Probe.due("gap", desk.gap(0, 0), -1);
        Probe.due("way", desk.way(0, 1), -1);
        Probe.due("busiest", desk.busiest(), -1);
        Probe.due("hub", desk.hub(0), -1);
        Probe.due("split", desk.split(0, 1, 0), -1);
        Probe.due("without", desk.without(0, 1), -1);
        Probe.due("dearest", desk.dearest(), -1);
        Probe.due("fuel", desk.fuel(0, 1), -2);
        Probe.due("buy", desk.buy(0, 1), -2);
        Probe.due("weigh", desk.weigh(0, 1), -2);
        Probe.due("undo", desk.undo(), -1);
        Probe.due("end 1", desk.end(1), false);
        Probe.due("end 0", desk.end(0), true);
        Probe.due("text", desk.text(), 0);
    }

    private static void newObjectsAreApart() {
        FreightShare first = Probe.told(OTHER);
        first.weigh(0, 1);
        Probe.put(first, "desk 8;");
        FreightShare second = new FreightShare();
        Probe.due("second: rate", second.now(0), 0);
        Probe.due("second: undo", second.now(10), 0);
        Probe.due("second: tape", second.now(11), 0);
        Probe.tell(second, SMALL);
        Probe.due("first: loads", first.now(3), 3);
        Probe.due("first: tape", first.now(11), 7);
    }

    private static void feedTakesTheHighestFirst() {
        Probe.sentence("Twenty bytes come behind the tape, of each number the highest first");
        // A byte that is no TOKEN among blanks: its FAULT tells where it came.
        for (int sign : new int[] {0x80, 0xff, 0x23, 0}) {
            FreightShare desk = new FreightShare();
            for (int place = 0; place < 20; place++) {
                int[] five = {BLANKS, BLANKS, BLANKS, BLANKS, BLANKS};
                int shift = 24 - 8 * (place % 4);
                five[place / 4] = five[place / 4] & ~(255 << shift) | sign << shift;
                Probe.due("feed", desk.feed(five[0], five[1], five[2], five[3], five[4]), 20);
                Probe.due("byte " + sign + " at " + place, desk.text(), -1 - place);
            }
        }
    }

    private static void feedComesBehind() {
        FreightShare desk = new FreightShare();
        // "desk 1;place 20 31 ;", "place 4 5;place 6 7;"
        Probe.due("first", desk.feed(0x6465736b, 0x20313b70, 0x6c616365, 0x20323020, 0x3331203b), 20);
        Probe.due("second", desk.feed(0x706c6163, 0x65203420, 0x353b706c, 0x61636520, 0x3620373b), 40);
        Probe.due("bytes", desk.now(11), 40);
        Probe.due("lines", desk.text(), 4);
        Probe.due("first to last", desk.direct(0, 2), 14 + 24);
    }

    private static void fill(FreightShare desk, int feeds) {
        for (int k = 1; k <= feeds; k++) {
            Probe.due("feed " + k, desk.feed(BLANKS, BLANKS, BLANKS, BLANKS, BLANKS), 20 * k);
        }
    }

    private static void feedIsFullAt840() {
        Probe.sentence("NONE, and none come, if it would have more than 840");
        FreightShare desk = new FreightShare();
        fill(desk, 42);
        Probe.due("840 and 20", desk.feed(0, 0, 0, 0, 0), -1);
        Probe.due("once more", desk.feed(0, 0, 0, 0, 0), -1);
        Probe.due("bytes", desk.now(11), 840);
        desk.end(821);
        Probe.due("821 and 20", desk.feed(0, 0, 0, 0, 0), -1);
        Probe.due("bytes of 821", desk.now(11), 821);
        desk.end(820);
        Probe.due("820 and 20", desk.feed(0, 0, 0, 0, 0), 840);
        desk.end(0);
        Probe.due("room again", desk.feed(0, 0, 0, 0, 0), 20);
    }

    private static void feedRefusedTakesNone() {
        FreightShare desk = new FreightShare();
        Probe.put(desk, "desk 12;" + " ".repeat(832));
        Probe.due("refused", desk.feed(0x23232323, 0x23232323, 0x23232323, 0x23232323, 0x23232323), -1);
        Probe.due("bytes", desk.now(11), 840);
        desk.end(800);
        Probe.due("the tape as it was", desk.text(), 1);
        Probe.due("rate", desk.now(0), 12);
    }

    private static void endKeepsTheFirst() {
        Probe.sentence("The tape has its first n bytes alone: true");
        FreightShare desk = new FreightShare();
        Probe.due("0 of none", desk.end(0), true);
        Probe.put(desk, "desk 12;place 1 1; #");
        Probe.due("all of them", desk.end(20), true);
        Probe.due("20 bytes", desk.now(11), 20);
        Probe.due("all but one", desk.end(19), true);
        Probe.due("19 bytes", desk.now(11), 19);
        Probe.due("to the first line", desk.end(8), true);
        Probe.due("lines", desk.text(), 1);
        // What comes behind stands where the first n end, not where the tape ended.
        desk.feed(0x6465736b, 0x20392323, 0x23232323, 0x23232323, 0x23232323);
        desk.end(6);
        Probe.due("behind", desk.feed(0x313b2020, BLANKS, BLANKS, BLANKS, BLANKS), 26);
        Probe.due("lines behind", desk.text(), 1);
        Probe.due("rate", desk.now(0), 91);
        desk.feed(0, 0, 0, 0, 0);
        Probe.due("none", desk.end(0), true);
        Probe.due("no bytes", desk.now(11), 0);
        Probe.due("empty", desk.text(), 0);
    }

    private static void endRefuses() {
        Probe.sentence("false, if it has not so many, or n is below 0");
        FreightShare desk = new FreightShare();
        Probe.due("1 of none", desk.end(1), false);
        for (int size : new int[] {20, 19, 1}) {
            desk.end(0);
            Probe.put(desk, "desk 7;place 3 4;   ".substring(0, size));
            for (int n : Probe.outside(0, size)) {
                Probe.due("end " + n + " of " + size, desk.end(n), false);
            }
            Probe.due("bytes", desk.now(11), size);
        }
        desk.end(0);
        Probe.put(desk, "desk 7;place 3 4;");
        Probe.due("one too many", desk.end(18), false);
        Probe.due("below 0", desk.end(-1), false);
        Probe.due("the tape as it was", desk.text(), 2);
        FreightShare full = new FreightShare();
        fill(full, 42);
        Probe.due("841", full.end(841), false);
        Probe.due("840", full.end(840), true);
    }

    private static void textEmptiesTheTape() {
        Probe.sentence("The tape (empty then, even with a FAULT) is a TEXT");
        FreightShare desk = new FreightShare();
        for (String text : new String[] {"desk 1;", "desk 1000;", "#", "", " ", "desk 1;" + " ".repeat(833)}) {
            Probe.put(desk, text);
            desk.text();
            Probe.due("bytes behind " + text, desk.now(11), 0);
            Probe.due("end behind " + text, desk.end(1), false);
            Probe.due("feed behind " + text, desk.feed(0, 0, 0, 0, 0), 20);
            desk.end(0);
        }
    }

    private static void textThatIsEmpty() {
        Probe.sentence("(an empty one: nothing told; nothing can be undone)");
        List<String> nothing = Probe.answers(new FreightShare());
        for (String text : new String[] {"", " ", "\n", " \n".repeat(400)}) {
            FreightShare desk = Probe.told(SMALL);
            desk.buy(0, 61);
            Probe.due("lines", Probe.tell(desk, text), 0);
            Probe.due("fault", desk.fault(), 0);
            Probe.same("what a desk with nothing answers", Probe.answers(desk), nothing);
            Probe.due("undo", desk.undo(), -1);
            Probe.due("bought", desk.buy(0, 1), -2);
        }
    }

    private static void textForgetsWhatCanBeUndone() {
        FreightShare desk = Probe.told(SMALL);
        desk.buy(0, 61);
        desk.weigh(0, 3);
        desk.fuel(0, 4);
        Probe.due("three", desk.now(10), 3);
        Probe.tell(desk, SMALL);
        Probe.due("none behind a text", desk.now(10), 0);
        Probe.due("undo", desk.undo(), -1);
        Probe.same("the text once more", Probe.answers(desk), Probe.answers(Probe.told(SMALL)));
    }

    private static void textForgetsWhatWasTold() {
        // Behind any two others, right or not, a text tells what it tells a new object.
        String[] right = {"", "desk 3;", SMALL, OTHER, HUBS, STILL};
        String[] any = {"", "desk 3;", SMALL, OTHER, HUBS, STILL, "desk 5;#", OTHER + "place 1 100;", STILL + "trip 0 7 0 on 0;"};
        for (String text : right) {
            List<String> fresh = Probe.answers(Probe.told(text));
            for (String first : any) {
                for (String second : any) {
                    FreightShare desk = new FreightShare();
                    Probe.tell(desk, first);
                    Probe.tell(desk, second);
                    Probe.tell(desk, text);
                    Probe.same(text + " behind " + first + " and " + second, Probe.answers(desk), fresh);
                }
            }
        }
    }

    private static void textCountsLines() {
        Probe.sentence("how many LINES");
        FreightShare desk = new FreightShare();
        Probe.due("none", Probe.tell(desk, ""), 0);
        Probe.due("one", Probe.tell(desk, "desk 1;"), 1);
        Probe.due("two", Probe.tell(desk, "desk 1;place 1 1;"), 2);
        Probe.due("most", Probe.tell(desk, "desk 1;" + "place 1 1;".repeat(12) + "truck 1 1;".repeat(4)
                + "load 1 0 1;".repeat(16) + "trip 0 1 0;".repeat(16)), 49);
    }

    private static void textWithAFaultAnswersItsPlace() {
        Probe.sentence("-1 less the place of a FAULT");
        Probe.faulty("#", 0, 1);
        Probe.faulty(" #", 1, 1);
        Probe.faulty("desk 1;" + " ".repeat(792) + "#", 799, 1);
        Probe.faulty("desk 1;" + " ".repeat(833), 800, 1);
    }

    private static void textWithAFaultLeavesAll() {
        Probe.sentence("all stays");
        String[] faulty = {"#", "desk", "desk 1000;", "desk 1;" + "place 1 1;".repeat(13), "place 1 1;",
            OTHER + "trip 0 none 0 on 0;", OTHER + "load 1 0 0;", OTHER + " ".repeat(801 - OTHER.length())};
        for (String text : faulty) {
            FreightShare desk = Probe.told(SMALL);
            desk.weigh(0, 9);
            desk.fuel(0, 3);
            List<String> before = Probe.answers(desk);
            Probe.due("a fault of " + text, Probe.tell(desk, text) < 0, true);
            Probe.same("what was told", Probe.answers(desk), before);
            Probe.due("undo", desk.undo(), 1);
            Probe.due("fuel", Probe.trip(desk, 0, 1), -1);
            Probe.due("undo again", desk.undo(), 0);
            Probe.due("weight", Probe.load(desk, 0, 0), 2);
        }
        FreightShare empty = new FreightShare();
        Probe.tell(empty, OTHER + "#");
        Probe.same("nothing told", Probe.answers(empty), Probe.answers(new FreightShare()));
    }

    private static void faultAheadOfAny() {
        Probe.sentence("0 without one and ahead of any");
        FreightShare desk = new FreightShare();
        Probe.due("ahead of any", desk.fault(), 0);
        Probe.put(desk, "#");
        Probe.due("fed alone", desk.fault(), 0);
        desk.text();
        Probe.due("with one", desk.fault(), 1);
        Probe.tell(desk, "desk 1;");
        Probe.due("without one", desk.fault(), 0);
        Probe.tell(desk, "desk 1000;");
        Probe.due("with one again", desk.fault(), 2);
        Probe.tell(desk, "");
        Probe.due("of an empty one", desk.fault(), 0);
    }

    private static void faultOfTheLatest() {
        Probe.sentence("The kind of the FAULT of the latest text()");
        FreightShare desk = Probe.told(SMALL);
        String[] texts = {"desk 1;truck 1 1;trip 0 none 0;", "desk 1000;", "desk 1;" + "truck 1 1;".repeat(5), "desk"};
        int[] kinds = {3, 2, 4, 1};
        for (int k = 0; k < texts.length; k++) {
            Probe.tell(desk, texts[k]);
            Probe.due("kind of " + texts[k], desk.fault(), kinds[k]);
            desk.feed(0, 0, 0, 0, 0);
            desk.end(0);
            desk.buy(0, k);
            desk.undo();
            desk.now(0);
            Probe.due("kind once more", desk.fault(), kinds[k]);
        }
    }
}
