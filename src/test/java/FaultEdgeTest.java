import java.util.List;

/** FAULTS (promises 4 and 5): for each sentence that names a bound, a test of its own. */
public final class FaultEdgeTest {
    private static final String PLACES = "desk 1;place 0 0;place 1 1;";
    private static final String ALL = PLACES + "truck 1 1;load 1 0 1;load 2 1 0;";

    /** A right text, a token each, and what else could come where it stands ("1" for a number). */
    private static final String[][] TOKENS = {
        {"desk"}, {"7", "1"}, {";"},
        {"place", "truck", "load", "trip"}, {"4", "1"}, {"5", "1"}, {";"},
        {"place", "truck", "load", "trip"}, {"6", "1"}, {"9", "1"}, {";"},
        {"truck", "place", "load", "trip"}, {"8", "1"}, {"3", "1"}, {";"},
        {"load", "place", "truck", "trip"}, {"2", "1"}, {"0", "1"}, {"1"}, {";"},
        {"trip", "place", "truck", "load"}, {"0", "1"}, {"none", "1"}, {"0", "1"},
        {"to", "on", "off", ";"}, {"1"}, {"on", "to", "off", ";"}, {"0", "1"}, {"to", "on", "off", ";"}, {"0", "1"},
        {"off", "to", "on", ";"}, {"0", "1"}, {";", "to", "on", "off"}};

    private static final String[] ALL_SORTS = {"1", ";", "desk", "place", "truck", "load", "trip", "none", "to", "on", "off",
        "x", "nil", "#", "12345", "a1", "1a", "-1", "A"};

    private FaultEdgeTest() {
    }

    public static void main(String[] args) {
        theFirstAlongTheText();
        theLeastOfOneToken();
        tokensThatCantCome();
        theEnd();
        moreThan800();
        faultsAheadOf800();
        tokensReadWhole();
        tokensBehind800();
        numbersNotAsTold();
        placesNotTold();
        trucksNotTold();
        loadsNotTold();
        placesOfALoadAlike();
        loadsOnAlready();
        loadsNotOn();
        tripEndsWithALoadOn();
        oneMoreThanTold();
        Probe.finish();
    }

    private static void theFirstAlongTheText() {
        Probe.sentence("FAULTS, the first along the text");
        Probe.faultyAt("desk |1000;#", 2);
        Probe.faultyAt("desk |1000 1000;", 2);
        Probe.faultyAt(PLACES + "load 1 |2 2;desk", 3);
        Probe.faultyAt(PLACES + "load |0 2 2;", 2);
        Probe.faultyAt("desk 1;" + "truck 1 1;".repeat(4) + "|truck 1000 #;", 4);
        Probe.faultyAt(ALL + "trip 0 1 0 on 0 to |2;", 3);
        Probe.faultyAt(ALL + "trip 0 1 0 off |0 # 10000;", 3);
    }

    private static void theLeastOfOneToken() {
        Probe.sentence("of one TOKEN the least");
        // The ; of a trip with a load on, where no ; can come.
        Probe.faultyAt(ALL + "trip 0 1 0 on 0 to |;", 1);
        Probe.faultyAt(ALL + "trip 0 1 0 on 0 on |;", 1);
        // One more of a sort, where its word can't come.
        Probe.faultyAt("desk 1;" + "truck 1 1;".repeat(4) + "|truck5 1;", 1);
        Probe.faultyAt("desk 1;" + "truck 1 1;".repeat(4) + "place 1 |truck 1 1;", 1);
        Probe.faultyAt("desk 1;" + "place 1 1;".repeat(12) + "truck |place 1;", 1);
        Probe.faultyAt("desk 1;" + "place 1 1;".repeat(12) + "truck 1 1 |place 1;", 1);
        // No token, and too large besides.
        Probe.faultyAt("desk |10000;", 1);
        Probe.faultyAt(PLACES + "load 1 0 |10000;", 1);
    }

    private static void tokensThatCantCome() {
        Probe.sentence("1 no TOKEN, or one that can't come (at it");
        StringBuilder ahead = new StringBuilder();
        for (String[] place : TOKENS) {
            List<String> fitting = List.of(place);
            for (String sort : ALL_SORTS) {
                if (!fitting.contains(sort)) {
                    Probe.faultyAt(ahead + "|" + sort, 1);
                    Probe.faultyAt(ahead + "|" + sort + " 1 ; #", 1);
                }
            }
            ahead.append(place[0]).append(' ');
        }
        Probe.told(ahead.toString());
    }

    private static void theEnd() {
        Probe.sentence("the end: how many bytes there are");
        StringBuilder ahead = new StringBuilder();
        for (String[] place : TOKENS) {
            ahead.append(ahead.length() == 0 ? "" : " ").append(place[0]);
            if (!place[0].equals(";")) {
                Probe.faultyAt(ahead + "|", 1);
                Probe.faultyAt(ahead + " \n |", 1);
            }
        }
        Probe.faulty("desk" + " ".repeat(795), 799, 1);
        Probe.faulty("desk" + " ".repeat(796), 800, 1);
    }

    private static void moreThan800() {
        Probe.sentence("800, if there are more and no FAULT is ahead");
        for (int size : new int[] {801, 802, 820, 839, 840}) {
            Probe.faulty("desk 1;" + " ".repeat(size - 7), 800, 1);
            Probe.faulty("desk" + " ".repeat(size - 4), 800, 1);
            Probe.faulty(" ".repeat(size), 800, 1);
            Probe.faulty(" ".repeat(800) + "#".repeat(size - 800), 800, 1);
            Probe.faulty(" ".repeat(size - 1) + "#", 800, 1);
        }
    }

    private static void faultsAheadOf800() {
        Probe.faulty("desk 1000;" + " ".repeat(830), 5, 2);
        Probe.faulty(" ".repeat(799) + "#" + " ".repeat(40), 799, 1);
        Probe.faulty("desk 1;" + " ".repeat(792) + ";" + " ".repeat(40), 799, 1);
        Probe.faulty(PLACES + "load 1 1 1;" + " ".repeat(840 - 11 - PLACES.length()), PLACES.length() + 9, 3);
        String full = "desk 1;" + "truck 1 1;".repeat(4) + "truck 1 1;";
        Probe.faulty(full + " ".repeat(840 - full.length()), 47, 4);
    }

    private static void tokensReadWhole() {
        Probe.sentence("TOKENS that begin ahead of it are read whole");
        // What stands ahead of 800 is right; the whole is not.
        Probe.faulty("desk" + " ".repeat(793) + "9999;", 797, 2);
        Probe.faulty("desk" + " ".repeat(795) + "1000;", 799, 2);
        Probe.faulty("desk" + " ".repeat(792) + "00001;", 796, 1);
        Probe.faulty("desk" + " ".repeat(795) + "1x;", 799, 1);
        Probe.faulty(" ".repeat(796) + "desks", 796, 1);
        Probe.faulty("desk 1;" + " ".repeat(788) + "placebo", 795, 1);
        Probe.faulty("desk 1;" + " ".repeat(792) + "x".repeat(40), 799, 1);
        // What stands ahead of 800 is not right; the whole is.
        Probe.faulty(" ".repeat(799) + "desk 1;", 800, 1);
        Probe.faulty("desk 1;" + " ".repeat(790) + "place 1 1;", 800, 1);
        Probe.faulty("desk 1;load" + " ".repeat(788) + "01", 800, 1);
        String twelve = "desk 1;" + "place 1 1;".repeat(12);
        Probe.faulty(twelve + " ".repeat(799 - twelve.length()) + "place 1 1;", 799, 4);
        Probe.faulty(twelve + "load 1 1" + " ".repeat(791 - twelve.length()) + "12;", 799, 3);
        Probe.faulty(twelve + "load 1 1" + " ".repeat(791 - twelve.length()) + "10;", 800, 1);
    }

    private static void tokensBehind800() {
        // A token that begins at 800 is not read: its own fault would be of another kind.
        Probe.faulty("desk" + " ".repeat(796) + "1000;", 800, 1);
        Probe.faulty("desk 1;load 1" + " ".repeat(787) + "0", 800, 1);
        String four = "desk 1;" + "truck 1 1;".repeat(4);
        Probe.faulty(four + " ".repeat(800 - four.length()) + "truck 1 1;", 800, 1);
    }

    private static void numbersNotAsTold() {
        Probe.sentence("2 a NUMBER that is not as told (at it)");
        String[] marked = {"desk |N;", "desk 1;place |N 0;", "desk 1;place 0 |N;", "desk 1;truck |N 0;",
            PLACES + "load |N 0 1;"};
        int[] most = {999, 99, 99, 999, 99};
        for (int k = 0; k < marked.length; k++) {
            Probe.told(marked[k].replace("|N", Integer.toString(most[k])));
            Probe.faultyAt(marked[k].replace("N", Integer.toString(most[k] + 1)), 2);
            Probe.faultyAt(marked[k].replace("N", "9999"), 2);
            // Behind it the text may end.
            String begun = marked[k].substring(0, marked[k].indexOf('N'));
            Probe.faultyAt(begun + (most[k] + 1), 2);
        }
        Probe.faultyAt(PLACES + "load |0 0 1;", 2);
        Probe.faultyAt(PLACES + "load |00", 2);
    }

    private static final String[] BEYOND = {"2", "3", "12", "16", "32", "33", "64", "9999"};

    private static void placesNotTold() {
        Probe.sentence("3 a PLACE, TRUCK, LOAD that is not told");
        String[] marked = {"load 1 |N 0;", "load 1 0 |N;", "truck 1 1;trip 0 1 |N;", "truck 1 1;trip 0 1 0 to |N;",
            "truck 1 1;trip 0 1 0 to 1 to |N;"};
        for (String line : marked) {
            for (String number : BEYOND) {
                Probe.faultyAt(PLACES + line.replace("N", number), 3);
            }
        }
        Probe.faultyAt("desk 1;load 1 |0 0;", 3);
        Probe.faultyAt("desk 1;truck 1 1;trip 0 1 |0;", 3);
    }

    private static void trucksNotTold() {
        Probe.faultyAt(PLACES + "trip |0 1 0;", 3);
        for (String number : BEYOND) {
            Probe.faultyAt(PLACES + "truck 1 1;truck 1 1;trip |" + number + " 1 0;", 3);
        }
        Probe.told(PLACES + "truck 1 1;truck 1 1;trip 1 1 0;");
    }

    private static void loadsNotTold() {
        Probe.faultyAt(PLACES + "truck 1 1;trip 0 1 0 on |0;", 3);
        Probe.faultyAt(PLACES + "truck 1 1;trip 0 1 0 off |0;", 3);
        for (String number : BEYOND) {
            // 32 and 64 would be the bit of load 0 again.
            Probe.faultyAt(ALL + "trip 0 1 0 on |" + number + " off " + number + ";", 3);
            Probe.faultyAt(ALL + "trip 0 1 0 on 0 on 1 off |" + number + ";", 3);
        }
        Probe.faultyAt(PLACES + "truck 1 1;" + "load 1 0 1;".repeat(16) + "trip 0 1 0 on |16;", 3);
    }

    private static void placesOfALoadAlike() {
        Probe.sentence("the second of two PLACES of a load that are alike");
        Probe.faultyAt(PLACES + "load 1 0 |0;", 3);
        Probe.faultyAt(PLACES + "load 1 1 |1;", 3);
        Probe.faultyAt(PLACES + "load 1 1 |0001;", 3);
        Probe.told("desk 1;place 1 1;place 1 1;load 1 0 1;load 1 1 0;");
    }

    private static void loadsOnAlready() {
        Probe.sentence("a LOAD that was on this TRIP already");
        Probe.faultyAt(ALL + "trip 0 1 0 on 0 on |0;", 3);
        Probe.faultyAt(ALL + "trip 0 1 0 on 0 off 0 on |0;", 3);
        Probe.faultyAt(ALL + "trip 0 1 0 on 0 off 0 on 1 off 1 on |0;", 3);
        Probe.faultyAt(ALL + "trip 0 1 0 on 0 on 1 on |0;", 3);
        Probe.told(ALL + "trip 0 1 0 on 1 off 1;trip 0 1 0 on 1 off 1;");
        Probe.told(ALL + "trip 0 1 0 on 0 off 0 on 1 off 1;");
    }

    private static void loadsNotOn() {
        Probe.sentence("that is not on it (at it)");
        Probe.faultyAt(ALL + "trip 0 1 0 off |0;", 3);
        Probe.faultyAt(ALL + "trip 0 1 0 on 0 off |1;", 3);
        Probe.faultyAt(ALL + "trip 0 1 0 on 0 off 0 off |0;", 3);
        Probe.faultyAt(ALL + "trip 0 1 0 on 0 off 0;trip 0 1 0 off |0;", 3);
    }

    private static void tripEndsWithALoadOn() {
        Probe.sentence("the ; of a TRIP with one that is on (at it)");
        Probe.faultyAt(ALL + "trip 0 1 0 on 0|;", 3);
        Probe.faultyAt(ALL + "trip 0 1 0 on 0 to 1  \n |;", 3);
        Probe.faultyAt(ALL + "trip 0 1 0 on 0 on 1 off 1|;", 3);
        Probe.told(ALL + "trip 0 1 0 on 0 off 0 ;trip 0 1 0;");
    }

    private static void oneMoreThanTold() {
        Probe.sentence("4 one more of a sort than told (at its WORD)");
        String[] lines = {"place 1 1;", "truck 1 1;", "load 1 0 1;", "trip 0 1 0;"};
        int[] most = {12, 4, 16, 16};
        for (int k = 0; k < lines.length; k++) {
            String full = (k == 0 ? "desk 1;" : k == 3 ? ALL : PLACES) + lines[k].repeat(most[k]);
            String word = lines[k].substring(0, lines[k].indexOf(' '));
            Probe.told(full);
            Probe.faultyAt(full + "|" + lines[k], 4);
            Probe.faultyAt(full + " \n|" + word, 4);
            Probe.faultyAt(full + "|" + word + " # ", 4);
        }
        // Each sort has room of its own.
        Probe.told("desk 1;" + "place 1 1;".repeat(12) + "truck 1 1;".repeat(4) + "load 1 0 1;".repeat(16)
                + "trip 3 1 11;".repeat(16));
    }
}
