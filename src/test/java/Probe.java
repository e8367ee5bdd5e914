import java.nio.charset.StandardCharsets;
import java.util.Arrays;
import java.util.NoSuchElementException;

/** What the tests share: telling texts, comparing answers, counting what is wrong. */
final class Probe {
    /** Stands for an answer that is a NoSuchElementException. */
    static final int THROWS = Integer.MIN_VALUE;

    private static int wrong = 0;
    private static int checked = 0;

    private Probe() {
    }

    static void due(String what, int got, int want) {
        checked++;
        if (got != want) {
            wrong++;
            if (wrong <= 50) {
                System.out.println(what + ": answered " + show(got) + ", due is " + show(want));
            }
        }
    }

    static void due(String what, boolean got, boolean want) {
        due(what, got ? 1 : 0, want ? 1 : 0);
    }

    private static String show(int answer) {
        return answer == THROWS ? "NoSuchElementException" : Integer.toString(answer);
    }

    static int wrongSoFar() {
        return wrong;
    }

    static void finish() {
        if (checked == 0) {
            System.out.println("nothing was checked");
            System.exit(1);
        }
        if (wrong != 0) {
            System.out.println(wrong + " of " + checked + " answers are not as due");
            System.exit(1);
        }
    }

    static void put(FreightShare desk, byte[] bytes) {
        byte[] padded = Arrays.copyOf(bytes, (bytes.length + 19) / 20 * 20);
        for (int at = 0; at < padded.length; at += 20) {
            int size = desk.feed(word(padded, at), word(padded, at + 4), word(padded, at + 8),
                    word(padded, at + 12), word(padded, at + 16));
            due("feed", size, at + 20);
        }
        due("end(" + bytes.length + ")", desk.end(bytes.length), true);
    }

    static void put(FreightShare desk, String text) {
        put(desk, text.getBytes(StandardCharsets.ISO_8859_1));
    }

    private static int word(byte[] bytes, int at) {
        return (bytes[at] & 255) << 24 | (bytes[at + 1] & 255) << 16
                | (bytes[at + 2] & 255) << 8 | (bytes[at + 3] & 255);
    }

    /** Puts a text on an empty tape and answers what text() does. */
    static int tell(FreightShare desk, String text) {
        put(desk, text);
        return desk.text();
    }

    /** A new desk that was told a right text. */
    static FreightShare told(String text) {
        FreightShare desk = new FreightShare();
        int answer = tell(desk, text);
        int lines = (int) text.chars().filter(sign -> sign == ';').count();
        due("lines of " + text, answer, lines);
        due("fault of " + text, desk.fault(), 0);
        return desk;
    }

    /** Checks where a text's fault is and of which kind. */
    static void faulty(String text, int place, int kind) {
        FreightShare desk = new FreightShare();
        due("text \"" + text + "\"", tell(desk, text), -1 - place);
        due("kind \"" + text + "\"", desk.fault(), kind);
    }

    /** Checks a fault at the sign | of the text, which is taken out. */
    static void faultyAt(String marked, int kind) {
        int place = marked.indexOf('|');
        faulty(marked.substring(0, place) + marked.substring(place + 1), place, kind);
    }

    static int load(FreightShare desk, int load, int what) {
        try {
            return desk.load(load, what);
        } catch (NoSuchElementException e) {
            return THROWS;
        }
    }

    static int trip(FreightShare desk, int trip, int what) {
        try {
            return desk.trip(trip, what);
        } catch (NoSuchElementException e) {
            return THROWS;
        }
    }
}
