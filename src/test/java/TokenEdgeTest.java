/** TOKENS, TEXT and its LINES (with promise 4): for each sentence that names a bound, a test of its own. */
public final class TokenEdgeTest {
    private static final String PLACES = "desk 1;place 0 0;place 10 0;place 10 20;";
    private static final String ALL = PLACES + "truck 1 1;load 1 0 1;load 2 1 0;";

    private TokenEdgeTest() {
    }

    public static void main(String[] args) {
        blanksBetweenOrNot();
        eachByteBehindAWord();
        eachByteBehindANumber();
        wordsAsTold();
        numbersOfOneToFourDigits();
        wordsAndNumbersGoOn();
        atMost800Bytes();
        linesEndWithTheirSign();
        firstLineIsTheDesk();
        places();
        trucks();
        loads();
        trips();
        tripAtItsFirstPlace();
        loadsGoOnOnce();
        loadsGoOff();
        Probe.finish();
    }

    private static void blanksBetweenOrNot() {
        Probe.sentence("with blanks (32, 10) between them or not");
        Probe.told("desk 1;place 1 2;");
        Probe.told("desk 1 ; place 1 2 ; ");
        Probe.told("\ndesk\n1\n;\nplace\n1\n2\n;\n");
        Probe.told("  \n desk \n\n  1\n ;\n\n place \n 1  2 \n;   \n");
        Probe.faultyAt("desk|\t1;", 1);
        Probe.faultyAt("desk 1;|\r\nplace 1 2;", 1);
    }

    private static boolean isRunSign(int sign) {
        return sign >= 'a' && sign <= 'z' || sign >= '0' && sign <= '9';
    }

    private static void eachByteBehindAWord() {
        Probe.sentence("WORDS: small letters; NUMBERS: 1 to 4 digits; the sign ;");
        for (int sign = 0; sign < 256; sign++) {
            String text = "desk" + (char) sign + " 1;";
            if (sign == 32 || sign == 10) {
                Probe.told(text);
            } else {
                // The word goes on and is none, or ends ahead of what can't come.
                Probe.faulty(text, isRunSign(sign) ? 0 : 4, 1);
            }
        }
    }

    private static void eachByteBehindANumber() {
        for (int sign = 0; sign < 256; sign++) {
            String text = "desk 1" + (char) sign + ";";
            if (sign == 32 || sign == 10 || sign >= '0' && sign <= '9') {
                FreightShare desk = Probe.told(text);
                Probe.due("rate of " + text, desk.now(0), isRunSign(sign) ? 10 + sign - '0' : 1);
            } else if (sign == ';') {
                Probe.faulty(text, 7, 1);
            } else {
                Probe.faulty(text, isRunSign(sign) ? 5 : 6, 1);
            }
        }
    }

    private static void wordsAsTold() {
        String[] lines = {"|desk 1;", "desk 1;|place 1 1;", "desk 1;|truck 1 1;", PLACES + "|load 1 0 1;",
            ALL + "|trip 0 1 0;", ALL + "trip 0 |none 0;", ALL + "trip 0 1 0 |to 1;",
            ALL + "trip 0 1 0 |on 0 off 0;", ALL + "trip 0 1 0 on 0 |off 0;"};
        for (String marked : lines) {
            int at = marked.indexOf('|');
            int end = marked.indexOf(' ', at);
            String word = marked.substring(at + 1, end);
            Probe.told(marked.replace("|", ""));
            String[] slips = {word.substring(1), word.substring(0, word.length() - 1), word + word.charAt(0), "x" + word,
                "x" + word.substring(1), word.substring(0, word.length() - 1) + "x", word + word};
            for (String slip : slips) {
                Probe.faultyAt(marked.substring(0, at + 1) + slip + marked.substring(end), 1);
            }
            char first = Character.toUpperCase(word.charAt(0));
            Probe.faultyAt(marked.substring(0, at + 1) + first + marked.substring(at + 2), 1);
        }
    }

    private static void numbersOfOneToFourDigits() {
        Probe.sentence("NUMBERS: 1 to 4 digits");
        for (String digits : new String[] {"9", "09", "009", "0009"}) {
            Probe.due("rate " + digits, Probe.told("desk " + digits + ";").now(0), 9);
        }
        Probe.due("0000", Probe.told("desk 0000;").now(0), 0);
        Probe.due("four digits", Probe.told("desk 1;truck 1 9876;").truck(0, 1), 9876);
        Probe.faultyAt("desk |00009;", 1);
        Probe.faultyAt("desk 1;truck 1 |10000;", 1);
        Probe.faultyAt(ALL + "trip 0 |10000 0;", 1);
        // Numbers that wrap around to 1 in 32 and in 64 bits, and one as long as a text.
        Probe.faultyAt("desk |4294967297;", 1);
        Probe.faultyAt("desk |18446744073709551617;", 1);
        Probe.faultyAt("desk |" + "0".repeat(793) + "1;", 1);
    }

    private static void wordsAndNumbersGoOn() {
        Probe.sentence("(A WORD, NUMBER goes on as long as small letters and digits do; what is not as told is no TOKEN.)");
        Probe.faultyAt("|desk1;", 1);
        Probe.faultyAt("desk |1d;", 1);
        Probe.faultyAt("desk |d1;", 1);
        Probe.faultyAt("desk |12a4;", 1);
        Probe.faultyAt("desk |1place 1 1;", 1);
        Probe.faultyAt("desk 1;|place1 1;", 1);
        Probe.faultyAt(ALL + "trip 0 |none0;", 1);
        Probe.faultyAt(ALL + "trip 0 1 |0to 1;", 1);
        Probe.faultyAt(ALL + "trip 0 1 0 |to1;", 1);
        Probe.faultyAt(ALL + "trip 0 1 0 on |0off 0;", 1);
        // The sign ; does not go on.
        Probe.faultyAt("desk 1;|;place 1 1;", 1);
        Probe.told("desk 1;place 1 1;");
    }

    private static void atMost800Bytes() {
        Probe.sentence("A TEXT has at most 800 bytes");
        Probe.told("desk 1;" + " ".repeat(792));
        Probe.told("desk 1;" + " ".repeat(793));
        Probe.told(" ".repeat(793) + "desk 1;");
        Probe.faulty("desk 1;" + " ".repeat(794), 800, 1);
        Probe.faulty(" ".repeat(794) + "desk 1;", 800, 1);
        Probe.faulty(" ".repeat(801), 800, 1);
        // As many steps as 800 bytes hold, five bytes each.
        StringBuilder text = new StringBuilder("desk 1;place 0 0;place 0 1;truck 100 9;load 1 0 1;trip 0 1 0");
        int legs = 0;
        while (text.length() + 6 <= 800) {
            legs++;
            text.append(" to ").append(legs % 2);
        }
        text.append(';');
        text.append(" ".repeat(800 - text.length()));
        FreightShare desk = Probe.told(text.toString());
        Probe.due("steps", legs, 147);
        Probe.due("long", Probe.trip(desk, 0, 2), 147);
        Probe.due("last", Probe.trip(desk, 0, 11), 1);
    }

    private static void linesEndWithTheirSign() {
        Probe.sentence("{ LINE ; }");
        Probe.due("no line", Probe.tell(new FreightShare(), ""), 0);
        Probe.faultyAt("|;", 1);
        Probe.faultyAt("desk 1;|;", 1);
        Probe.faultyAt("desk 1|", 1);
        Probe.faultyAt("desk 1 |place 1 1;", 1);
        Probe.faultyAt("desk 1;place 1 1|", 1);
    }

    private static void firstLineIsTheDesk() {
        Probe.sentence("The first LINE: 'desk' RATE (0 to 999).");
        Probe.due("least", Probe.told("desk 0;").now(0), 0);
        Probe.due("most", Probe.told("desk 999;").now(0), 999);
        Probe.faultyAt("desk |1000;", 2);
        Probe.faultyAt("desk |9999;", 2);
        for (String line : new String[] {"place 1 1;", "truck 1 1;", "load 1 0 1;", "trip 0 1 0;"}) {
            Probe.faultyAt("|" + line + "desk 1;", 1);
        }
        Probe.faultyAt("desk 1;|desk 1;", 1);
        Probe.faultyAt("desk 1;place 1 1;|desk 1;", 1);
    }

    private static void places() {
        Probe.sentence("'place' X Y (0 to 99; numbered from 0, 12 at most)");
        FreightShare desk = Probe.told("desk 1;place 0 99;place 99 0;place 99 99;");
        Probe.due("least and most X", desk.direct(0, 2), 99);
        Probe.due("least and most Y", desk.direct(1, 2), 99);
        Probe.faultyAt("desk 1;place |100 0;", 2);
        Probe.faultyAt("desk 1;place 0 |100;", 2);
        Probe.faultyAt("desk 1;place |9999 0;", 2);
        Probe.faultyAt("desk 1;place 0 |9999;", 2);
        String twelve = "desk 1;" + "place 1 1;".repeat(12);
        FreightShare full = Probe.told(twelve + "load 1 0 11;");
        Probe.due("twelve", full.now(1), 12);
        Probe.due("the last is 11", Probe.load(full, 0, 2), 11);
        Probe.faultyAt(twelve + "load 1 0 |12;", 3);
        Probe.faultyAt(twelve + "|place 1 1;", 4);
    }

    private static void trucks() {
        Probe.sentence("'truck' USE BOUGHT (0 to 999, 0 to 9999; 4 at most)");
        FreightShare desk = Probe.told("desk 1;truck 0 9999;truck 999 0;truck 5 5;truck 6 6;");
        Probe.due("least use", desk.truck(0, 0), 0);
        Probe.due("most bought", desk.truck(0, 1), 9999);
        Probe.due("most use", desk.truck(1, 0), 999);
        Probe.due("least bought", desk.truck(1, 1), 0);
        Probe.due("four", desk.now(2), 4);
        Probe.faultyAt("desk 1;truck |1000 0;", 2);
        Probe.faultyAt("desk 1;truck |9999 0;", 2);
        Probe.faultyAt("desk 1;" + "truck 1 1;".repeat(4) + "|truck 1 1;", 4);
        Probe.told("desk 1;place 1 1;" + "truck 1 1;".repeat(4) + "trip 3 1 0;");
        Probe.faultyAt("desk 1;place 1 1;" + "truck 1 1;".repeat(4) + "trip |4 1 0;", 3);
    }

    private static void loads() {
        Probe.sentence("'load' WEIGHT FROM TO (1 to 99; PLACES told ahead, unlike; 16 at most)");
        FreightShare desk = Probe.told(PLACES + "load 1 0 1;load 99 1 0;");
        Probe.due("least", Probe.load(desk, 0, 0), 1);
        Probe.due("most", Probe.load(desk, 1, 0), 99);
        Probe.faultyAt(PLACES + "load |0 0 1;", 2);
        Probe.faultyAt(PLACES + "load |0000 0 1;", 2);
        Probe.faultyAt(PLACES + "load |100 0 1;", 2);
        Probe.faultyAt("desk 1;load 1 |0 1;place 0 0;place 1 1;", 3);
        Probe.faultyAt("desk 1;place 0 0;load 1 0 |1;place 1 1;", 3);
        Probe.told(PLACES + "load 1 0 2;");
        Probe.faultyAt(PLACES + "load 1 0 |3;", 3);
        Probe.faultyAt(PLACES + "load 1 |3 0;", 3);
        Probe.faultyAt(PLACES + "load 1 2 |2;", 3);
        // Places that lie alike are unlike by their numbers.
        Probe.told("desk 1;place 5 5;place 5 5;load 1 0 1;");
        FreightShare full = Probe.told(PLACES + "load 7 0 1;".repeat(15) + "load 8 0 1;");
        Probe.due("sixteen", full.now(3), 16);
        Probe.due("the last is 15", Probe.load(full, 15, 0), 8);
        Probe.faultyAt(PLACES + "load 1 0 1;".repeat(16) + "|load 1 0 1;", 4);
    }

    private static void trips() {
        Probe.sentence("'trip' TRUCK ( FUEL | 'none' ) PLACE { 'to' PLACE | 'on' LOAD | 'off' LOAD } "
                + "(told ahead; FUEL 0 to 9999; 16 at most)");
        FreightShare desk = Probe.told(ALL + "trip 0 0 0;trip 0 9999 1;trip 0 none 2;");
        Probe.due("least", Probe.trip(desk, 0, 1), 0);
        Probe.due("most", Probe.trip(desk, 1, 1), 9999);
        Probe.due("none", Probe.trip(desk, 2, 1), -1);
        Probe.faultyAt(ALL + "trip 0 |10000 0;", 1);
        Probe.faultyAt(PLACES + "trip |0 1 0;truck 1 1;", 3);
        Probe.faultyAt("desk 1;truck 1 1;trip 0 1 |0;place 1 1;", 3);
        Probe.faultyAt(ALL + "trip 0 1 0 to |3;place 1 1;", 3);
        Probe.faultyAt(ALL + "trip 0 1 0 on |2;load 1 0 1;", 3);
        Probe.told(ALL + "place 1 1;load 1 0 1;trip 0 1 3 to 3 on 2 off 2;");
        FreightShare full = Probe.told(ALL + "trip 0 1 0;".repeat(15) + "trip 0 7 1;");
        Probe.due("sixteen", full.now(4), 16);
        Probe.due("the last is 15", Probe.trip(full, 15, 1), 7);
        Probe.faultyAt(ALL + "trip 0 1 0;".repeat(16) + "|trip 0 1 0;", 4);
    }

    private static void tripAtItsFirstPlace() {
        Probe.sentence("A TRIP is at its first PLACE at first, goes on to PLACES");
        FreightShare desk = Probe.told(ALL + "trip 0 1 2;trip 0 1 2 on 0 to 1 off 0;trip 0 1 2 on 0 off 0 to 0 to 1;");
        Probe.due("no step: first", Probe.trip(desk, 0, 10), 2);
        Probe.due("no step: last", Probe.trip(desk, 0, 11), 2);
        Probe.due("taken on at the first", Probe.trip(desk, 1, 5), 20);
        Probe.due("off at the first", Probe.trip(desk, 2, 5), 0);
        Probe.due("first", Probe.trip(desk, 2, 10), 2);
        Probe.due("last", Probe.trip(desk, 2, 11), 1);
    }

    private static void loadsGoOnOnce() {
        Probe.sentence("one that was not on it yet");
        Probe.faultyAt(ALL + "trip 0 1 0 on 0 on |0 off 0;", 3);
        Probe.faultyAt(ALL + "trip 0 1 0 on 0 off 0 on |0 off 0;", 3);
        Probe.faultyAt(ALL + "trip 0 1 0 on 0 on 1 off 1 off 0 to 1 on |0 off 0;", 3);
        Probe.told(ALL + "trip 0 1 0 on 0 off 0 on 1 off 1;trip 0 1 0 on 0 off 0;");
    }

    private static void loadsGoOff() {
        Probe.sentence("one that is on it; all that were on are off at its end");
        Probe.faultyAt(ALL + "trip 0 1 0 off |0;", 3);
        Probe.faultyAt(ALL + "trip 0 1 0 on 1 off |0 off 1;", 3);
        Probe.faultyAt(ALL + "trip 0 1 0 on 0 off 0 off |0;", 3);
        Probe.faultyAt(ALL + "trip 0 1 0 on 0|;trip 0 1 0 off 0;", 3);
        Probe.faultyAt(ALL + "trip 0 1 0 on 0 on 1 off 1|;", 3);
        Probe.faultyAt(ALL + "trip 0 1 0 on 0 on 1 off 0|;", 3);
        Probe.told(ALL + "trip 0 1 0 on 0 on 1 off 0 off 1;");
        Probe.told(ALL + "trip 0 1 0 on 0 on 1 off 1 off 0;");
        // Sixteen at once, each with a bit of its own.
        String on = Probe.steps("on", 16);
        String off = Probe.steps("off", 16);
        String loads = PLACES + "truck 1 1;" + "load 1 0 1;".repeat(16);
        FreightShare desk = Probe.told(loads + "trip 0 1 0" + on + off + ";");
        Probe.due("sixteen on one trip", Probe.trip(desk, 0, 4), 65535);
        Probe.faultyAt(loads + "trip 0 1 0" + on + Probe.steps("off", 15) + "|;", 3);
        Probe.faultyAt(loads + "trip 0 1 0" + on + off.substring(6) + "|;", 3);
    }
}
