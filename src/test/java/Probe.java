import java.nio.charset.StandardCharsets;
import java.util.ArrayList;
import java.util.Arrays;
import java.util.List;
import java.util.NoSuchElementException;
import java.util.function.IntBinaryOperator;
import java.util.stream.IntStream;

/** What the tests share: telling texts, comparing answers, counting what is wrong. */
final class Probe {
    /** Stands for an answer that is a NoSuchElementException. */
    static final int THROWS = Integer.MIN_VALUE;

    private static final int[] STRANGE = {Integer.MIN_VALUE, Integer.MIN_VALUE + 1, -65536, -256, -100, -16, -3, -2, -1,
        0, 1, 2, 3, 4, 5, 6, 7, 8, 9, 10, 11, 12, 13, 15, 16, 17, 31, 32, 33, 64, 99, 100, 101, 128, 255, 256, 257, 999,
        1000, 9999, 10000, 65535, 65536, Integer.MAX_VALUE - 1, Integer.MAX_VALUE};

    private static int wrong = 0;
    private static int checked = 0;
    private static String sentence = "";

    private Probe() {
    }

    /** The document's own words that the answers which come next are held against. */
    static void sentence(String quote) {
        sentence = "[" + quote + "] ";
    }

    static void due(String what, int got, int want) {
        checked++;
        if (got != want) {
            wrong++;
            if (wrong <= 50) {
                System.out.println(sentence + what + ": answered " + show(got) + ", due is " + show(want));
            }
        }
    }

    static void due(String what, boolean got, boolean want) {
        due(what, got ? 1 : 0, want ? 1 : 0);
    }

    private static String show(int answer) {
        return answer == THROWS ? "NoSuchElementException" : Integer.toString(answer);
    }

    static int wrongSoFar() {
        return wrong;
    }

    static void finish() {
        if (checked == 0) {
            System.out.println("nothing was checked");
            System.exit(1);
        }
        if (wrong != 0) {
            System.out.println(wrong + " of " + checked + " answers are not as due");
            System.exit(1);
        }
    }

    static void put(FreightShare desk, byte[] bytes) {
        byte[] padded = Arrays.copyOf(bytes, (bytes.length + 19) / 20 * 20);
        for (int at = 0; at < padded.length; at += 20) {
            int size = desk.feed(word(padded, at), word(padded, at + 4), word(padded, at + 8),
                    word(padded, at + 12), word(padded, at + 16));
            due("feed", size, at + 20);
        }
        due("end(" + bytes.length + ")", desk.end(bytes.length), true);
    }

    static void put(FreightShare desk, String text) {
        put(desk, text.getBytes(StandardCharsets.ISO_8859_1));
    }

    private static int word(byte[] bytes, int at) {
        return (bytes[at] & 255) << 24 | (bytes[at + 1] & 255) << 16
                | (bytes[at + 2] & 255) << 8 | (bytes[at + 3] & 255);
    }

    /** Puts a text on an empty tape and answers what text() does. */
    static int tell(FreightShare desk, String text) {
        put(desk, text);
        return desk.text();
    }

    /** A new desk that was told a right text. */
    static FreightShare told(String text) {
        FreightShare desk = new FreightShare();
        int answer = tell(desk, text);
        int lines = (int) text.chars().filter(sign -> sign == ';').count();
        due("lines of " + text, answer, lines);
        due("fault of " + text, desk.fault(), 0);
        return desk;
    }

    /** Checks where a text's fault is and of which kind. */
    static void faulty(String text, int place, int kind) {
        FreightShare desk = new FreightShare();
        due("text \"" + text + "\"", tell(desk, text), -1 - place);
        due("kind \"" + text + "\"", desk.fault(), kind);
    }

    /** Checks a fault at the sign | of the text, which is taken out. */
    static void faultyAt(String marked, int kind) {
        int place = marked.indexOf('|');
        faulty(marked.substring(0, place) + marked.substring(place + 1), place, kind);
    }

    /** A trip's steps of so many loads, such as " on 0 on 1". */
    static String steps(String word, int loads) {
        StringBuilder text = new StringBuilder();
        for (int load = 0; load < loads; load++) {
            text.append(' ').append(word).append(' ').append(load);
        }
        return text.toString();
    }

    /** Numbers far and near that are not from least to most. */
    static int[] outside(int least, int most) {
        IntStream near = IntStream.of(least - 1, most + 1);
        return IntStream.concat(near, IntStream.of(STRANGE)).filter(n -> n < least || n > most).distinct().toArray();
    }

    /**
     * All that a desk answers without being changed, a line an answer, but for the kind of a fault.
     * Of a desk with few places, loads and trips, so that its 512 calls are not used up.
     */
    static List<String> answers(FreightShare desk) {
        List<String> all = new ArrayList<>();
        int places = desk.now(1);
        int loads = desk.now(3);
        int trips = desk.now(4);
        IntStream.range(0, 12).forEach(what -> all.add("now " + what + ": " + desk.now(what)));
        all.add("busiest: " + desk.busiest());
        all.add("dearest: " + desk.dearest());
        table(all, "direct", places, places, desk::direct);
        table(all, "way", places, places, desk::way);
        table(all, "hub", places, 1, (place, none) -> desk.hub(place));
        table(all, "truck", desk.now(2), 8, desk::truck);
        table(all, "load", loads, 10, (load, what) -> load(desk, load, what));
        table(all, "trip", trips, 12, (trip, what) -> trip(desk, trip, what));
        table(all, "share", trips, loads, desk::share);
        table(all, "share of open", 1, loads, (none, load) -> desk.share(-1, load));
        table(all, "gap", desk.now(9), 3, desk::gap);
        table(all, "without", loads, loads, desk::without);
        table(all, "split by 1", loads, 2, (load, what) -> desk.split(load, 1, what));
        return all;
    }

    private static void table(List<String> all, String name, int rows, int columns, IntBinaryOperator ask) {
        for (int row = 0; row < rows; row++) {
            for (int column = 0; column < columns; column++) {
                all.add(name + " " + row + " " + column + ": " + ask.applyAsInt(row, column));
            }
        }
    }

    static void same(String what, List<String> got, List<String> want) {
        String differs = "";
        for (int k = 0; k < Math.max(got.size(), want.size()) && differs.isEmpty(); k++) {
            String one = k < got.size() ? got.get(k) : "nothing";
            String other = k < want.size() ? want.get(k) : "nothing";
            differs = one.equals(other) ? "" : " (" + one + "; due is " + other + ")";
        }
        due(what + " is the same" + differs, differs.isEmpty(), true);
    }

    static int load(FreightShare desk, int load, int what) {
        try {
            return desk.load(load, what);
        } catch (NoSuchElementException e) {
            return THROWS;
        }
    }

    static int trip(FreightShare desk, int trip, int what) {
        try {
            return desk.trip(trip, what);
        } catch (NoSuchElementException e) {
            return THROWS;
        }
    }
}
