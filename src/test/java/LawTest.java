import java.util.ArrayList;
import java.util.Arrays;
import java.util.List;
import java.util.Random;
import java.util.function.IntUnaryOperator;
import java.util.stream.Collectors;
import java.util.stream.IntStream;

/**
 * What must hold on every desk, whatever its numbers are, without a model: nothing is lost in parting; what is told anew,
 * and what is on paper, answers as a text does that tells it so.
 */
public final class LawTest {
    private static final int ROUNDS = 1200;
    private static final int WEIGHT = 1;
    private static final int BOUGHT = 2;
    private static final int FUEL = 2;

    private LawTest() {
    }

    public static void main(String[] args) {
        int[] held = new int[5];
        for (int round = 0; round < ROUNDS && Probe.wrongSoFar() < 50; round++) {
            Random random = new Random(91000 + round);
            List<List<String>> lines = lines(Texts.right(random));
            FreightShare desk = Probe.told(textOf(lines));
            // Larger ones would have more answers than the calls that are promised.
            if (desk.now(1) > 5 || desk.now(3) > 5 || desk.now(4) > 5) {
                continue;
            }
            held[0] += nothingIsLost(desk);
            held[1] += splitIsAsTold(random, lines);
            held[2] += withoutIsAsTold(random, lines);
            held[3] += changesAreAsTold(random, lines);
            held[4] += unusedPlaceBearsOnNothing(lines);
        }
        for (int k = 0; k < held.length; k++) {
            Probe.due("law " + k + " was looked at " + held[k] + " times: often enough", held[k] > ROUNDS / 10, true);
        }
        Probe.finish();
    }

    private static int nothingIsLost(FreightShare desk) {
        int loads = desk.now(3);
        int trips = desk.now(4);
        Probe.due("shares of all", desk.now(6), loads > 0 ? desk.now(5) : 0);
        Probe.due("parted and open", sum(trips, trip -> desk.trip(trip, 8)) + desk.now(7), desk.now(5));
        for (int truck = 0; truck < desk.now(2); truck++) {
            int bits = desk.truck(truck, 2);
            int closed = sum(trips, trip -> (bits >> trip & 1) != 0 ? desk.trip(trip, 7) : 0);
            Probe.due("closed of truck " + truck, closed, bits == 0 ? 0 : desk.truck(truck, 1));
        }
        for (int trip = 0; trip < trips; trip++) {
            int number = trip;
            Probe.due("parts of trip " + trip, sum(loads, load -> desk.share(number, load)), desk.trip(trip, 8));
        }
        for (int load = 0; load < loads; load++) {
            int number = load;
            Probe.due("share of load " + load, sum(trips + 1, trip -> desk.share(trip - 1, number)), desk.load(load, 6));
        }
        Probe.due("open", loads == 0 ? desk.now(7) : sum(loads, load -> desk.share(-1, load)), desk.now(7));
        return 1;
    }

    private static int splitIsAsTold(Random random, List<List<String>> lines) {
        FreightShare desk = Probe.told(textOf(lines));
        int loads = desk.now(3);
        int load = loads == 0 ? 0 : random.nextInt(loads);
        int weight = loads == 0 ? 0 : desk.load(load, 0);
        if (weight < 2) {
            return 0;
        }
        int w = 1 + random.nextInt(weight - 1);
        List<List<String>> two = copyOf(lines);
        List<String> first = numbered(two, "load", load);
        List<String> second = new ArrayList<>(first);
        first.set(WEIGHT, Integer.toString(w));
        second.set(WEIGHT, Integer.toString(weight - w));
        two.add(placeOf(two, "load", loads - 1) + 1, second);
        for (List<String> trip : trips(two)) {
            for (int k = trip.size() - 2; k > 3; k -= 2) {
                if (!trip.get(k).equals("to") && trip.get(k + 1).equals(Integer.toString(load))) {
                    trip.addAll(k + 2, List.of(trip.get(k), Integer.toString(loads)));
                }
            }
        }
        String text = textOf(two);
        if (text.length() > 800) {
            return 0;
        }
        FreightShare told = Probe.told(text);
        String name = "split " + load + " " + w + " of " + textOf(lines);
        Probe.due(name, desk.split(load, w, 1), told.load(load, 6));
        Probe.due(name + ", both", desk.split(load, w, 0), told.load(load, 6) + told.load(loads, 6));
        return 1;
    }

    private static int withoutIsAsTold(Random random, List<List<String>> lines) {
        FreightShare desk = Probe.told(textOf(lines));
        int loads = desk.now(3);
        if (loads < 2) {
            return 0;
        }
        int gone = random.nextInt(loads);
        if (sum(loads, load -> load == gone ? 0 : desk.load(load, 3)) == 0) {
            // If all measures are 0, the first has all, and a load of weight 0 can't be told.
            return 0;
        }
        List<List<String>> fewer = copyOf(lines);
        fewer.remove(placeOf(fewer, "load", gone));
        for (List<String> trip : trips(fewer)) {
            for (int k = trip.size() - 2; k > 3; k -= 2) {
                int number = Integer.parseInt(trip.get(k + 1));
                if (trip.get(k).equals("to")) {
                    continue;
                }
                if (number == gone) {
                    trip.subList(k, k + 2).clear();
                } else if (number > gone) {
                    trip.set(k + 1, Integer.toString(number - 1));
                }
            }
        }
        FreightShare told = Probe.told(textOf(fewer));
        for (int other = 0; other < loads; other++) {
            int want = other == gone ? -1 : told.load(other < gone ? other : other - 1, 6);
            Probe.due("without " + gone + ", of " + other + ", of " + textOf(lines), desk.without(gone, other), want);
        }
        return 1;
    }

    private static int changesAreAsTold(Random random, List<List<String>> lines) {
        FreightShare desk = Probe.told(textOf(lines));
        List<String> before = Probe.answers(desk);
        List<List<String>> anew = copyOf(lines);
        int trip = random.nextInt(1 + desk.now(4));
        int truck = random.nextInt(1 + desk.now(2));
        int load = random.nextInt(1 + desk.now(3));
        int fuel = random.nextInt(3) - 1 + random.nextInt(200) * random.nextInt(2);
        tell(anew, "trip", trip, FUEL, fuel, desk.fuel(trip, fuel));
        int bought = random.nextInt(400);
        tell(anew, "truck", truck, BOUGHT, bought, desk.buy(truck, bought));
        int weight = 1 + random.nextInt(99);
        tell(anew, "load", load, WEIGHT, weight, desk.weigh(load, weight));
        String text = textOf(anew);
        if (text.length() > 800) {
            return 0;
        }
        int undos = desk.now(10);
        List<String> want = Probe.answers(Probe.told(text));
        want.set(10, "now 10: " + undos);
        Probe.same("told anew: " + text, Probe.answers(desk), want);
        for (int k = 0; k < undos; k++) {
            Probe.due("undo", desk.undo(), undos - 1 - k);
        }
        Probe.same("undone: " + textOf(lines), Probe.answers(desk), before);
        return undos > 0 ? 1 : 0;
    }

    /** A place behind all others on which nobody goes leaves all as it is, but for how many places there are. */
    private static int unusedPlaceBearsOnNothing(List<List<String>> lines) {
        List<List<String>> more = copyOf(lines);
        more.add(new ArrayList<>(List.of("place", "50", "50")));
        FreightShare desk = Probe.told(textOf(lines));
        FreightShare told = Probe.told(textOf(more));
        int place = desk.now(1);
        Probe.due("places", told.now(1), place + 1);
        for (int what = 2; what < 12; what++) {
            Probe.due("now " + what, told.now(what), desk.now(what));
        }
        Probe.due("busiest", told.busiest(), desk.busiest());
        Probe.due("hub", told.hub(place), 0);
        Probe.due("way", sum(place, from -> told.way(from, place) + told.way(place, from)), 0);
        return 1;
    }

    /** Writes a number into its line, if the desk took it, and it was so before. */
    private static void tell(List<List<String>> lines, String sort, int number, int field, int value, int was) {
        if (was == -2) {
            return;
        }
        List<String> line = numbered(lines, sort, number);
        Probe.due(sort + " was", was, line.get(field).equals("none") ? -1 : Integer.parseInt(line.get(field)));
        line.set(field, value == -1 ? "none" : Integer.toString(value));
    }

    private static int sum(int count, IntUnaryOperator number) {
        return IntStream.range(0, count).map(number).sum();
    }

    private static List<List<String>> lines(String text) {
        return Arrays.stream(text.split(";")).map(String::trim).filter(line -> !line.isEmpty())
                .map(line -> Arrays.stream(line.split("[ \n]+")).collect(Collectors.toCollection(ArrayList::new)))
                .collect(Collectors.toCollection(ArrayList::new));
    }

    private static List<List<String>> copyOf(List<List<String>> lines) {
        return lines(textOf(lines));
    }

    private static String textOf(List<List<String>> lines) {
        return lines.stream().map(line -> String.join(" ", line) + ";").collect(Collectors.joining());
    }

    /** Where the line of a sort and number stands. */
    private static int placeOf(List<List<String>> lines, String sort, int number) {
        return IntStream.range(0, lines.size()).filter(k -> lines.get(k).get(0).equals(sort)).skip(number).findFirst()
                .orElseThrow();
    }

    private static List<String> numbered(List<List<String>> lines, String sort, int number) {
        return lines.get(placeOf(lines, sort, number));
    }

    private static List<List<String>> trips(List<List<String>> lines) {
        return lines.stream().filter(line -> line.get(0).equals("trip")).toList();
    }
}
