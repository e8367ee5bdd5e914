import java.util.ArrayList;
import java.util.List;
import java.util.Random;

/** Makes texts by chance: right ones, and ones with a slip somewhere. */
final class Texts {
    private Texts() {
    }

    static String any(Random random) {
        String text = right(random);
        switch (random.nextInt(8)) {
            case 0: return spoilToken(random, text);
            case 1: return spoilByte(random, text);
            case 2: return random.nextInt(3) == 0 ? crowded(random) : grown(random, text);
            case 3: return random.nextInt(4) == 0 ? " \n ".substring(random.nextInt(4)) : text;
            default: return text;
        }
    }

    /** A right text, of 800 bytes at most. */
    static String right(Random random) {
        for (int tries = 0; tries < 100; tries++) {
            String text = attempt(random);
            if (text.length() <= 800) {
                return text;
            }
        }
        return "desk 5;";
    }

    private static String blank(Random random) {
        return switch (random.nextInt(12)) {
            case 0 -> "\n";
            case 1 -> "  ";
            default -> " ";
        };
    }

    private static String attempt(Random random) {
        List<String> lines = new ArrayList<>();
        int places = random.nextInt(6) == 0 ? random.nextInt(13) : 2 + random.nextInt(5);
        int trucks = random.nextInt(5);
        int loads = places < 2 ? 0 : random.nextInt(5) == 0 ? random.nextInt(17) : random.nextInt(7);
        int trips = trucks == 0 || places == 0 ? 0
                : random.nextInt(5) == 0 ? random.nextInt(17) : random.nextInt(7);
        // Few coordinates make unlike places that lie alike, and so parts of 0, likely.
        int width = random.nextInt(3) == 0 ? 2 : 100;
        lines.add("desk " + random.nextInt(1000));
        for (int k = 0; k < places; k++) {
            lines.add("place " + random.nextInt(width) + " " + random.nextInt(width));
        }
        int dear = random.nextInt(3) == 0 ? 10000 : 300;
        for (int k = 0; k < trucks; k++) {
            lines.add("truck " + (random.nextInt(4) == 0 ? 0 : random.nextInt(1000)) + " " + random.nextInt(dear));
        }
        for (int k = 0; k < loads; k++) {
            int from = random.nextInt(places);
            int to = (from + 1 + random.nextInt(places - 1)) % places;
            lines.add("load " + (1 + random.nextInt(99)) + " " + from + " " + to);
        }
        for (int k = 0; k < trips; k++) {
            lines.add(trip(random, places, trucks, loads, dear));
        }
        StringBuilder text = new StringBuilder();
        for (String line : lines) {
            for (String word : line.split(" ")) {
                text.append(word).append(blank(random));
            }
            text.setLength(text.length() - (random.nextInt(5) == 0 ? 0 : 1));
            text.append(';').append(random.nextInt(9) == 0 ? " " : "");
        }
        return text.toString();
    }

    private static String trip(Random random, int places, int trucks, int loads, int dear) {
        StringBuilder text = new StringBuilder("trip " + random.nextInt(trucks) + " ");
        text.append(random.nextInt(2) == 0 ? "none" : Integer.toString(random.nextInt(dear / 3)));
        text.append(" ").append(random.nextInt(places));
        List<Integer> fresh = new ArrayList<>();
        List<Integer> aboard = new ArrayList<>();
        for (int k = 0; k < loads; k++) {
            fresh.add(k);
        }
        int steps = random.nextInt(9);
        for (int k = 0; k < steps; k++) {
            int sort = random.nextInt(3);
            if (sort == 0 && !fresh.isEmpty()) {
                int load = fresh.remove(random.nextInt(fresh.size()));
                aboard.add(load);
                text.append(" on ").append(load);
            } else if (sort == 1 && !aboard.isEmpty()) {
                text.append(" off ").append(aboard.remove(random.nextInt(aboard.size())));
            } else {
                text.append(" to ").append(random.nextInt(places));
            }
        }
        while (!aboard.isEmpty()) {
            text.append(" off ").append(aboard.remove(random.nextInt(aboard.size())));
        }
        return text.toString();
    }

    private static final String[] STRANGE = {"desk", "place", "truck", "load", "trip", "none", "to", "on", "off",
        ";", "0", "1", "2", "7", "16", "99", "100", "0003", "999", "1000", "9999", "10000", "x", "t0", "4to", "#",
        "", " ", "off 0 off 0", "on 0 on 0", "; ;"};

    private static String spoilToken(Random random, String text) {
        String[] tokens = text.split("(?<=[ \n;])|(?=;)");
        tokens[random.nextInt(tokens.length)] = STRANGE[random.nextInt(STRANGE.length)]
                + (random.nextInt(3) == 0 ? "" : " ");
        String spoilt = String.join("", tokens);
        return spoilt.length() <= 840 ? spoilt : spoilt.substring(0, 840);
    }

    private static String spoilByte(Random random, String text) {
        int at = random.nextInt(text.length());
        char sign = (char) (random.nextInt(4) == 0 ? random.nextInt(256) : " \n;09azAZ\t\r`{/:".charAt(random.nextInt(15)));
        return switch (random.nextInt(3)) {
            case 0 -> text.substring(0, at);
            case 1 -> text.substring(0, at) + sign + text.substring(at + 1);
            default -> text.substring(0, at) + text.substring(at + 1);
        };
    }

    /** A text brought to some 800 bytes, on either side of the limit. */
    private static String grown(Random random, String text) {
        int size = 790 + random.nextInt(51);
        StringBuilder grown = new StringBuilder(text);
        String[] tails = {"trip 0 none 0", "place 1 2;", "trip 0 5 0;", "zzzzzzzzzzzzzzz", "123412341", "", "truck 5 5;"};
        String tail = tails[random.nextInt(tails.length)];
        while (grown.length() < size - tail.length()) {
            grown.append(random.nextInt(20) == 0 ? '\n' : ' ');
        }
        grown.append(tail);
        grown.setLength(Math.min(grown.length(), 840));
        return grown.toString();
    }

    /** One more of a sort than may be told, or just as many. */
    private static String crowded(Random random) {
        String[] lines = {"place 0 7;", "truck 3 70;", "load 9 0 1;", "trip 0 none 1;"};
        int[] most = {12, 4, 16, 16};
        int sort = random.nextInt(4);
        StringBuilder text = new StringBuilder("desk 3;");
        int[] counts = {2, 1, 1, 1};
        counts[sort] = most[sort] + random.nextInt(2);
        for (int k = 0; k < 4; k++) {
            text.append(lines[k].repeat(counts[k]));
        }
        return text.toString();
    }
}
