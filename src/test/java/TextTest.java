/** Promises 4 and 5: text, fault, with TOKENS, TEXT and FAULTS. */
public final class TextTest {
    private static final String PLACES = "desk 1;place 0 0;place 1 1;";
    private static final String ALL = PLACES + "truck 1 1;load 1 0 1;load 2 1 0;";

    private TextTest() {
    }

    public static void main(String[] args) {
        rightTexts();
        emptyTexts();
        tokenFaults();
        orderFaults();
        numberFaults();
        toldFaults();
        tripFaults();
        crowdFaults();
        limitOfBytes();
        faultLeavesAll();
        textForgetsUndo();
        Probe.finish();
    }

    private static void rightTexts() {
        Probe.told("desk 0;");
        Probe.told("desk 999;place 0 99;place 99 0;truck 0 0;truck 999 9999;load 1 0 1;load 99 1 0;");
        Probe.told("  desk\n7\n;\n\nplace 1 2;place 3 4 ;\n");
        Probe.told("desk 0007;place 01 0002;");
        Probe.told(ALL + "trip 0 none 0;trip 0 0 1;trip 0 9999 0 to 0 to 1 to 1;");
        Probe.told(ALL + "trip 0 none 0 on 0 on 1 off 0 to 1 off 1;trip 0 1 1 on 0 off 0;");
        Probe.told(ALL + "place 5 5;trip 0 none 2;load 3 2 0;trip 0 none 2 on 2 to 0 off 2;");
        FreightShare desk = Probe.told("desk 0012;place 7 8;");
        Probe.due("leading zeros", desk.now(0), 12);
        Probe.told("desk 1;" + "place 1 1;".repeat(12) + "truck 1 1;".repeat(4) + "load 1 0 1;".repeat(16)
                + "trip 0 1 0;".repeat(16));
    }

    private static void emptyTexts() {
        FreightShare desk = Probe.told(ALL);
        Probe.due("empty text", Probe.tell(desk, ""), 0);
        for (int what = 0; what <= 11; what++) {
            Probe.due("empty: now " + what, desk.now(what), 0);
        }
        Probe.tell(desk, ALL);
        Probe.due("blank text", Probe.tell(desk, " \n "), 0);
        Probe.due("blank: loads", desk.now(3), 0);
        Probe.due("blank: rate", desk.now(0), 0);
        Probe.due("blank: fault", desk.fault(), 0);
    }

    private static void tokenFaults() {
        Probe.faultyAt("|#desk 1;", 1);
        Probe.faultyAt("desk |12345;", 1);
        Probe.faultyAt("desk |00001;", 1);
        Probe.faultyAt("|desk1;", 1);
        Probe.faultyAt("desk |1a;", 1);
        Probe.faultyAt("desk |a1;", 1);
        Probe.faultyAt("desk |-1;", 1);
        Probe.faultyAt("desk|\t1;", 1);
        Probe.faultyAt("desk|\r1;", 1);
        Probe.faultyAt("desk|K 1;", 1);
        Probe.faultyAt("|Desk 1;", 1);
        Probe.faultyAt("desk 1|:", 1);
        Probe.faultyAt("desk 1|.5;", 1);
        Probe.faultyAt("desk 1;|" + (char) 0 + "place 1 1;", 1);
        Probe.faultyAt("desk 1;|`", 1);
        Probe.faultyAt("desk 1;|{", 1);
        Probe.faultyAt("desk 1;|/", 1);
        Probe.faultyAt("desk 1;|" + (char) 255, 1);
        Probe.faultyAt("desk 1;place 1 1;|trip0 1 0;", 1);
        Probe.faultyAt("desk 1;\n place 1 |1place 2 2;", 1);
    }

    private static void orderFaults() {
        Probe.faultyAt("|;", 1);
        Probe.faultyAt("|place 1 1;", 1);
        Probe.faultyAt("|5;", 1);
        Probe.faultyAt("|desks 1;", 1);
        Probe.faultyAt("|des 1;", 1);
        Probe.faultyAt("desk 1;|desk 2;", 1);
        Probe.faultyAt("desk 1;|;", 1);
        Probe.faultyAt("desk 1;|none;", 1);
        Probe.faultyAt("desk 1;|to 0;", 1);
        Probe.faultyAt("desk 1;|3;", 1);
        Probe.faultyAt("desk |;", 1);
        Probe.faultyAt("desk |place;", 1);
        Probe.faultyAt("desk 1 |2;", 1);
        Probe.faultyAt("desk 1|", 1);
        Probe.faultyAt("desk|", 1);
        Probe.faultyAt("desk 1   |", 1);
        Probe.faultyAt("desk 1;place 1|", 1);
        Probe.faultyAt("desk 1;place 1 |;", 1);
        Probe.faultyAt("desk 1;place 1 1 |1;", 1);
        Probe.faultyAt("desk 1;truck 1 |none;", 1);
        Probe.faultyAt("desk 1;truck 1 1 |truck;", 1);
        Probe.faultyAt(PLACES + "load 1 0 |;", 1);
        Probe.faultyAt(PLACES + "load 1 0 1 |1;", 1);
        Probe.faultyAt(PLACES + "load |none;", 1);
    }

    private static void numberFaults() {
        Probe.faultyAt("desk |1000;", 2);
        Probe.faultyAt("desk 1;place |100 1;", 2);
        Probe.faultyAt("desk 1;place 1 |100;", 2);
        Probe.faultyAt("desk 1;truck |1000 1;", 2);
        Probe.faultyAt(PLACES + "load |0 0 1;", 2);
        Probe.faultyAt(PLACES + "load |100 0 1;", 2);
        Probe.faultyAt(PLACES + "load |0 7 7;", 2);
        Probe.faultyAt("desk |1000", 2);
    }

    private static void toldFaults() {
        Probe.faultyAt("desk 1;load 1 |0 1;", 3);
        Probe.faultyAt(PLACES + "load 1 |2 0;", 3);
        Probe.faultyAt(PLACES + "load 1 0 |2;", 3);
        Probe.faultyAt(PLACES + "load 1 0 |9999;", 3);
        Probe.faultyAt(PLACES + "load 1 1 |1;", 3);
        Probe.faultyAt(PLACES + "load 1 1 |01;", 3);
        Probe.faultyAt(PLACES + "trip |0 none 0;", 3);
        Probe.faultyAt(ALL + "trip |1 none 0;", 3);
        Probe.faultyAt(ALL + "trip 0 none |2;", 3);
        Probe.faultyAt(ALL + "trip 0 none 0 to |2;", 3);
        Probe.faultyAt(ALL + "trip 0 none 0 on |2;", 3);
        Probe.faultyAt(ALL + "trip 0 none 0 off |2;", 3);
        // Told behind is not told ahead.
        Probe.faultyAt(PLACES + "load 1 0 |2;place 2 2;", 3);
    }

    private static void tripFaults() {
        Probe.faultyAt(ALL + "trip 0 |nix 0;", 1);
        Probe.faultyAt(ALL + "trip |none 0;", 1);
        Probe.faultyAt(ALL + "trip 0 none |;", 1);
        Probe.faultyAt(ALL + "trip 0 none 0 |1;", 1);
        Probe.faultyAt(ALL + "trip 0 none 0 |none;", 1);
        Probe.faultyAt(ALL + "trip 0 none 0 to |;", 1);
        Probe.faultyAt(ALL + "trip 0 none 0 on 0|", 1);
        Probe.faultyAt(ALL + "trip 0 none 0 off |0;", 3);
        Probe.faultyAt(ALL + "trip 0 none 0 on 0 on |0;", 3);
        Probe.faultyAt(ALL + "trip 0 none 0 on 0 off 0 on |0;", 3);
        Probe.faultyAt(ALL + "trip 0 none 0 on 0 off 0 off |0;", 3);
        Probe.faultyAt(ALL + "trip 0 none 0 on 0 on 1 off 0|;", 3);
        Probe.faultyAt(ALL + "trip 0 none 0 on 0 off |1;", 3);
        // A load may be on each trip once.
        Probe.told(ALL + "trip 0 none 0 on 0 off 0;trip 0 none 0 on 0 off 0;");
    }

    private static void crowdFaults() {
        Probe.faultyAt("desk 1;" + "place 1 1;".repeat(12) + "|place 1 1;", 4);
        Probe.faultyAt("desk 1;" + "place 1 1;".repeat(12) + "|place 100 x", 4);
        Probe.faultyAt("desk 1;" + "truck 1 1;".repeat(4) + "|truck 1 1;", 4);
        Probe.faultyAt(PLACES + "load 1 0 1;".repeat(16) + "|load 1 0 1;", 4);
        Probe.faultyAt(ALL + "trip 0 1 0;".repeat(16) + "|trip 0 1 0;", 4);
        Probe.faultyAt("desk 1;" + "truck 1 1;".repeat(4) + "|truck5 1 1;", 1);
    }

    private static void limitOfBytes() {
        String desk = "desk 1;";
        String blanks = " ".repeat(900);
        Probe.told(desk + blanks.substring(0, 800 - 7));
        Probe.faulty(desk + blanks.substring(0, 801 - 7), 800, 1);
        Probe.faulty(blanks.substring(0, 840), 800, 1);
        Probe.faulty(desk + blanks.substring(0, 840 - 8) + "#", 800, 1);
        Probe.faulty(desk + blanks.substring(0, 799 - 7) + "#  ", 799, 1);
        Probe.faulty(desk + blanks.substring(0, 800 - 7) + "#", 800, 1);
        Probe.faulty("desk" + blanks.substring(0, 800 - 4), 800, 1);
        Probe.faulty("desk" + blanks.substring(0, 836), 800, 1);
        // A token that begins ahead of 800 is read whole.
        Probe.faulty("desk" + blanks.substring(0, 799 - 4) + "1000;", 799, 2);
        Probe.faulty("desk" + blanks.substring(0, 799 - 4) + "10;", 800, 1);
        Probe.faulty("desk" + blanks.substring(0, 799 - 4) + "12345;", 799, 1);
        Probe.faulty("desk" + blanks.substring(0, 800 - 4) + "1000;", 800, 1);
        Probe.faulty(desk + blanks.substring(0, 798 - 7) + "place 1 1;", 800, 1);
        Probe.faulty(desk + blanks.substring(0, 798 - 7) + "places 1 1;", 798, 1);
        Probe.faulty("desk 1000;" + blanks.substring(0, 820), 5, 2);
        // The longest trip that a text holds.
        StringBuilder text = new StringBuilder("desk 1;place 0 0;place 0 1;truck 100 9;trip 0 none 0");
        int legs = 0;
        while (text.length() + 6 <= 800) {
            legs++;
            text.append(" to ").append(legs % 2);
        }
        FreightShare full = Probe.told(text.append(";").toString());
        Probe.due("long of many legs", Probe.trip(full, 0, 2), legs);
        Probe.due("many legs", legs > 140, true);
        Probe.due("ways of many legs", full.way(0, 1), (legs + 1) / 2);
    }

    private static void faultLeavesAll() {
        FreightShare desk = Probe.told("desk 7;place 0 0;place 3 4;truck 5 60;load 2 0 1;trip 0 none 0 on 0 to 1 off 0;");
        desk.weigh(0, 9);
        Probe.due("faulty", Probe.tell(desk, "desk 8;place 1 1;place 2"), -1 - 24);
        Probe.due("kind", desk.fault(), 1);
        Probe.due("the tape is empty", desk.now(11), 0);
        Probe.due("rate stays", desk.now(0), 7);
        Probe.due("places stay", desk.now(1), 2);
        Probe.due("direct stays", desk.direct(0, 1), 7);
        Probe.due("share stays", Probe.load(desk, 0, 6), 60);
        Probe.due("weight stays", Probe.load(desk, 0, 0), 9);
        Probe.due("undo stays", desk.now(10), 1);
        Probe.due("undone", desk.undo(), 0);
        Probe.due("weight before", Probe.load(desk, 0, 0), 2);
        Probe.due("right again", Probe.tell(desk, "desk 9;"), 1);
        Probe.due("no fault any more", desk.fault(), 0);
        Probe.due("rate", desk.now(0), 9);
        Probe.due("places", desk.now(1), 0);
        Probe.due("gaps", desk.now(9), 0);
        Probe.due("open", desk.now(7), 0);
        Probe.due("fault 2", Probe.tell(desk, "desk 1000;"), -6);
        Probe.due("kind 2", desk.fault(), 2);
        Probe.due("asked again", desk.fault(), 2);
    }

    private static void textForgetsUndo() {
        FreightShare desk = Probe.told(ALL);
        desk.buy(0, 5);
        desk.weigh(1, 8);
        Probe.due("can be undone", desk.now(10), 2);
        Probe.tell(desk, ALL);
        Probe.due("nothing can be undone", desk.now(10), 0);
        Probe.due("undo", desk.undo(), -1);
        Probe.due("bought as told", desk.truck(0, 1), 1);
    }
}
