import java.math.BigInteger;
import java.util.ArrayList;
import java.util.Collections;
import java.util.Comparator;
import java.util.List;
import java.util.Map;
import java.util.TreeMap;
import java.util.stream.Collectors;
import java.util.stream.IntStream;

/**
 * The document once more, word by word and without regard to speed or room, as a measure for the
 * class: it works out each answer from what was told, when it is asked.
 */
final class Model {
    static final int NONE = -1;

    record Place(int x, int y) { }

    record Leg(int from, int to, List<Integer> aboard) { }

    static final class Truck {
        final int use;
        int bought;

        Truck(int use, int bought) {
            this.use = use;
            this.bought = bought;
        }
    }

    static final class Load {
        int weight;
        final int from;
        final int to;

        Load(int weight, int from, int to) {
            this.weight = weight;
            this.from = from;
            this.to = to;
        }
    }

    static final class Trip {
        int truck;
        int fuel;
        int first;
        int last;
        final List<Leg> legs = new ArrayList<>();
        /** Load to the places where it was taken on and off. */
        final Map<Integer, int[]> rides = new TreeMap<>();
    }

    record Gap(int owner, int from, int to) { }

    /** What all bear: by load what it has of each trip (the last one: of what is open). */
    static final class Bill {
        int[] closed;
        int[] goes;
        int[] parted;
        int[][] shares;
        int open;
    }

    static final class Fault extends RuntimeException {
        private static final long serialVersionUID = 1L;
        final int kind;
        final int place;

        Fault(int kind, int place) {
            this.kind = kind;
            this.place = place;
        }
    }

    int rate = 0;
    List<Place> places = new ArrayList<>();
    List<Truck> trucks = new ArrayList<>();
    List<Load> loads = new ArrayList<>();
    List<Trip> trips = new ArrayList<>();
    List<Runnable> undos = new ArrayList<>();
    int fault = 0;

    // ---- the text

    record Token(String text, int place) { }

    private static List<Token> tokens(byte[] tape) {
        List<Token> all = new ArrayList<>();
        int at = 0;
        while (at < tape.length) {
            int sign = tape[at] & 255;
            if (sign == ' ' || sign == '\n') {
                at++;
                continue;
            }
            int to = at;
            while (to < tape.length && String.valueOf((char) (tape[to] & 255)).matches("[a-z0-9]")) {
                to++;
            }
            to = Math.max(to, at + 1);
            StringBuilder text = new StringBuilder();
            for (int k = at; k < to; k++) {
                text.append((char) (tape[k] & 255));
            }
            all.add(new Token(text.toString(), at));
            at = to;
        }
        List<Token> cut = new ArrayList<>(all.stream().filter(t -> t.place < 800).toList());
        cut.add(new Token("", Math.min(800, tape.length)));
        return cut;
    }

    private List<Token> line;
    private int next;

    private Token take() {
        Token token = line.get(next);
        if (!token.text.matches("|[a-z]+|[0-9]{1,4}|;")) {
            throw new Fault(1, token.place);
        }
        next++;
        return token;
    }

    private Token take(String pattern) {
        Token token = take();
        if (!token.text.matches(pattern)) {
            throw new Fault(1, token.place);
        }
        return token;
    }

    private int number(int from, int to, int kind) {
        Token token = take("[0-9]+");
        int value = Integer.parseInt(token.text);
        if (value < from || value > to) {
            throw new Fault(kind, token.place);
        }
        return value;
    }

    private static void room(List<?> list, int most, Token word) {
        if (list.size() >= most) {
            throw new Fault(4, word.place);
        }
    }

    /** The answer of text(); this stays as it was, if there is a fault. */
    int text(byte[] tape) {
        Model read = new Model();
        int lines;
        try {
            lines = read.parse(tape);
        } catch (Fault f) {
            fault = f.kind;
            return -1 - f.place;
        }
        fault = 0;
        rate = read.rate;
        places = read.places;
        trucks = read.trucks;
        loads = read.loads;
        trips = read.trips;
        undos = new ArrayList<>();
        return lines;
    }

    private int parse(byte[] tape) {
        line = tokens(tape);
        next = 0;
        int lines = 0;
        while (!line.get(next).text.isEmpty()) {
            Token word = take(lines == 0 ? "desk" : "place|truck|load|trip");
            switch (word.text) {
                case "desk" -> rate = number(0, 999, 2);
                case "place" -> {
                    room(places, 12, word);
                    places.add(new Place(number(0, 99, 2), number(0, 99, 2)));
                }
                case "truck" -> {
                    room(trucks, 4, word);
                    trucks.add(new Truck(number(0, 999, 2), number(0, 9999, 2)));
                }
                case "load" -> {
                    room(loads, 16, word);
                    int weight = number(1, 99, 2);
                    int from = number(0, places.size() - 1, 3);
                    int to = number(0, places.size() - 1, 3);
                    if (from == to) {
                        throw new Fault(3, line.get(next - 1).place);
                    }
                    loads.add(new Load(weight, from, to));
                }
                default -> {
                    room(trips, 16, word);
                    trips.add(parseTrip());
                }
            }
            take(";");
            lines++;
        }
        if (tape.length > 800) {
            throw new Fault(1, 800);
        }
        return lines;
    }

    private Trip parseTrip() {
        Trip trip = new Trip();
        trip.truck = number(0, trucks.size() - 1, 3);
        Token fuel = take("[0-9]+|none");
        trip.fuel = fuel.text.equals("none") ? NONE : Integer.parseInt(fuel.text);
        trip.first = number(0, places.size() - 1, 3);
        trip.last = trip.first;
        List<Integer> aboard = new ArrayList<>();
        while (true) {
            if (line.get(next).text.equals(";")) {
                if (!aboard.isEmpty()) {
                    throw new Fault(3, line.get(next).place);
                }
                return trip;
            }
            String word = take("to|on|off").text;
            int place = line.get(next).place;
            if (word.equals("to")) {
                int to = number(0, places.size() - 1, 3);
                trip.legs.add(new Leg(trip.last, to, List.copyOf(aboard)));
                trip.last = to;
                continue;
            }
            int load = number(0, loads.size() - 1, 3);
            if (word.equals("on")) {
                if (trip.rides.containsKey(load)) {
                    throw new Fault(3, place);
                }
                trip.rides.put(load, new int[] {trip.last, NONE});
                aboard.add(load);
            } else {
                if (!aboard.remove((Integer) load)) {
                    throw new Fault(3, place);
                }
                trip.rides.get(load)[1] = trip.last;
            }
        }
    }

    // ---- terms

    int distance(int a, int b) {
        Place p = places.get(a);
        Place q = places.get(b);
        return Math.max(p.x - q.x, q.x - p.x) + Math.max(p.y - q.y, q.y - p.y);
    }

    int longOf(Trip trip) {
        return trip.legs.stream().mapToInt(leg -> distance(leg.from, leg.to)).sum();
    }

    int emptyOf(Trip trip) {
        return trip.legs.stream().filter(leg -> leg.aboard.isEmpty())
                .mapToInt(leg -> distance(leg.from, leg.to)).sum();
    }

    int part(Trip trip, int load, int weight) {
        int[] ride = trip.rides.get(load);
        return ride == null ? 0 : weight * distance(ride[0], ride[1]);
    }

    int partsOf(Trip trip) {
        return trip.rides.keySet().stream().mapToInt(l -> part(trip, l, loads.get(l).weight)).sum();
    }

    int estimate(Trip trip) {
        if (trip.fuel != NONE) {
            return trip.fuel;
        }
        int hundredfold = trucks.get(trip.truck).use * longOf(trip);
        return hundredfold / 100 + (hundredfold % 100 > 0 ? 1 : 0);
    }

    static int[] parted(int number, List<Integer> measures) {
        int[] gets = new int[measures.size()];
        BigInteger all = BigInteger.ZERO;
        for (int measure : measures) {
            all = all.add(BigInteger.valueOf(measure));
        }
        if (all.signum() == 0) {
            gets[0] = number;
            return gets;
        }
        BigInteger[] rest = new BigInteger[gets.length];
        int left = number;
        for (int k = 0; k < gets.length; k++) {
            BigInteger[] both = BigInteger.valueOf(number)
                    .multiply(BigInteger.valueOf(measures.get(k))).divideAndRemainder(all);
            gets[k] = both[0].intValueExact();
            rest[k] = both[1];
            left -= gets[k];
        }
        List<Integer> order = IntStream.range(0, gets.length).boxed().collect(Collectors.toList());
        order.sort(Comparator.comparing((Integer k) -> rest[k]).reversed());
        for (int k = 0; k < left; k++) {
            gets[order.get(k)]++;
        }
        return gets;
    }

    private List<Trip> tripsOf(int truck) {
        return trips.stream().filter(trip -> trip.truck == truck).toList();
    }

    /** By trip numbers what each is closed to; the last element is open. */
    private int[] close() {
        int[] closed = new int[trips.size() + 1];
        for (int t = 0; t < trucks.size(); t++) {
            int bought = trucks.get(t).bought;
            List<Trip> mine = tripsOf(t);
            List<Trip> without = mine.stream().filter(trip -> trip.fuel == NONE).toList();
            List<Trip> with = mine.stream().filter(trip -> trip.fuel != NONE).toList();
            int told = with.stream().mapToInt(trip -> trip.fuel).sum();
            List<Trip> sharers = mine;
            int number = bought;
            if (mine.isEmpty()) {
                closed[trips.size()] += bought;
                continue;
            }
            if (!without.isEmpty() && without.stream().mapToInt(this::estimate).sum() > 0
                    && told <= bought) {
                with.forEach(trip -> closed[trips.indexOf(trip)] = trip.fuel);
                sharers = without;
                number = bought - told;
            }
            int[] gets = parted(number, sharers.stream().map(this::estimate).toList());
            for (int k = 0; k < gets.length; k++) {
                closed[trips.indexOf(sharers.get(k))] = gets[k];
            }
        }
        return closed;
    }

    /** The bill of loads that go as told ones do (same places, same rides), with weights. */
    private Bill bill(List<Integer> goAs, List<Integer> weights, List<Boolean> riding) {
        Bill bill = new Bill();
        int n = trips.size();
        bill.closed = close();
        bill.open = bill.closed[n];
        bill.goes = new int[n];
        bill.parted = new int[n];
        bill.shares = new int[goAs.size()][n + 1];
        boolean[] idle = new boolean[n];
        for (int t = 0; t < n; t++) {
            idle[t] = true;
            for (int k = 0; k < goAs.size(); k++) {
                idle[t] &= !riding.get(k) || part(trips.get(t), goAs.get(k), weights.get(k)) == 0;
            }
        }
        for (int t = 0; t < n; t++) {
            bill.goes[t] = NONE;
            if (!idle[t]) {
                bill.parted[t] += bill.closed[t];
                continue;
            }
            List<Trip> row = tripsOf(trips.get(t).truck);
            List<Integer> numbers = new ArrayList<>(row.stream().map(trips::indexOf).toList());
            int here = numbers.indexOf(t);
            List<Integer> looked = new ArrayList<>(numbers.subList(0, here));
            Collections.reverse(looked);
            looked.addAll(numbers.subList(here + 1, numbers.size()));
            bill.goes[t] = looked.stream().filter(k -> !idle[k]).findFirst().orElse(NONE);
            if (bill.goes[t] == NONE) {
                bill.open += bill.closed[t];
            } else {
                bill.parted[bill.goes[t]] += bill.closed[t];
            }
        }
        for (int t = 0; t < n; t++) {
            if (idle[t]) {
                continue;
            }
            List<Integer> who = new ArrayList<>();
            List<Integer> measures = new ArrayList<>();
            for (int k = 0; k < goAs.size(); k++) {
                if (riding.get(k) && trips.get(t).rides.containsKey(goAs.get(k))) {
                    who.add(k);
                    measures.add(part(trips.get(t), goAs.get(k), weights.get(k)));
                }
            }
            int[] gets = parted(bill.parted[t], measures);
            for (int k = 0; k < gets.length; k++) {
                bill.shares[who.get(k)][t] = gets[k];
            }
        }
        if (!goAs.isEmpty()) {
            List<Integer> measures = new ArrayList<>();
            for (int k = 0; k < goAs.size(); k++) {
                Load load = loads.get(goAs.get(k));
                measures.add(weights.get(k) * distance(load.from, load.to));
            }
            int[] gets = parted(bill.open, measures);
            for (int k = 0; k < gets.length; k++) {
                bill.shares[k][n] = gets[k];
            }
        }
        return bill;
    }

    private List<Integer> numbers() {
        return new ArrayList<>(IntStream.range(0, loads.size()).boxed().toList());
    }

    private List<Integer> weights() {
        return new ArrayList<>(loads.stream().map(load -> load.weight).toList());
    }

    private List<Boolean> riding() {
        return new ArrayList<>(loads.stream().map(load -> true).toList());
    }

    Bill bill() {
        return bill(numbers(), weights(), riding());
    }

    private static int shareOf(Bill bill, int load) {
        return IntStream.of(bill.shares[load]).sum();
    }

    List<Gap> gaps() {
        List<Gap> gaps = new ArrayList<>();
        for (int t = 0; t < trucks.size(); t++) {
            List<Trip> mine = tripsOf(t);
            for (int k = 1; k < mine.size(); k++) {
                if (mine.get(k - 1).last != mine.get(k).first) {
                    gaps.add(new Gap(t, mine.get(k - 1).last, mine.get(k).first));
                }
            }
        }
        for (int l = 0; l < loads.size(); l++) {
            gaps.addAll(gapsOf(l));
        }
        return gaps;
    }

    List<Gap> gapsOf(int load) {
        List<Integer> stops = new ArrayList<>();
        stops.add(loads.get(load).from);
        for (Trip trip : trips) {
            if (trip.rides.containsKey(load)) {
                stops.add(trip.rides.get(load)[0]);
                stops.add(trip.rides.get(load)[1]);
            }
        }
        stops.add(loads.get(load).to);
        List<Gap> gaps = new ArrayList<>();
        for (int k = 0; k < stops.size(); k += 2) {
            if (!stops.get(k).equals(stops.get(k + 1))) {
                gaps.add(new Gap(100 + load, stops.get(k), stops.get(k + 1)));
            }
        }
        return gaps;
    }

    // ---- the face

    private static boolean has(List<?> list, int k) {
        return k >= 0 && k < list.size();
    }

    int now(int what, int tapeSize) {
        switch (what) {
            case 0: return rate;
            case 1: return places.size();
            case 2: return trucks.size();
            case 3: return loads.size();
            case 4: return trips.size();
            case 5: return trucks.stream().mapToInt(truck -> truck.bought).sum();
            case 6: {
                Bill bill = bill();
                return numbers().stream().mapToInt(l -> shareOf(bill, l)).sum();
            }
            case 7: return bill().open;
            case 8: return IntStream.range(0, places.size()).map(p -> hub(p) > 0 ? 1 << p : 0).sum();
            case 9: return gaps().size();
            case 10: return undos.size();
            case 11: return tapeSize;
            default: return NONE;
        }
    }

    int direct(int a, int b) {
        return has(places, a) && has(places, b) ? distance(a, b) : NONE;
    }

    int truck(int truck, int what) {
        if (!has(trucks, truck)) {
            return NONE;
        }
        List<Trip> mine = tripsOf(truck);
        switch (what) {
            case 0: return trucks.get(truck).use;
            case 1: return trucks.get(truck).bought;
            case 2: return mine.stream().mapToInt(trip -> 1 << trips.indexOf(trip)).sum();
            case 3: return mine.stream().mapToInt(this::longOf).sum();
            case 4: return mine.stream().mapToInt(this::emptyOf).sum();
            case 5: return mine.stream().mapToInt(trip -> Math.max(0, trip.fuel)).sum();
            case 6: return mine.isEmpty() ? NONE : mine.get(mine.size() - 1).last;
            case 7: return mine.stream().mapToInt(this::estimate).sum();
            default: return NONE;
        }
    }

    int load(int l, int what) {
        if (!has(loads, l) || what < 0 || what > 9) {
            return Probe.THROWS;
        }
        Load load = loads.get(l);
        switch (what) {
            case 0: return load.weight;
            case 1: return load.from;
            case 2: return load.to;
            case 3: return distance(load.from, load.to);
            case 4: return IntStream.range(0, trips.size())
                    .filter(t -> trips.get(t).rides.containsKey(l)).map(t -> 1 << t).sum();
            case 5: return trips.stream().mapToInt(trip -> part(trip, l, load.weight)).sum();
            case 6: return shareOf(bill(), l);
            case 7: {
                int all = gapsOf(l).stream()
                        .mapToInt(gap -> load.weight * distance(gap.from, gap.to) * rate).sum();
                return all / 1000 + (all % 1000 > 0 ? 1 : 0);
            }
            case 8: return gapsOf(l).size();
            default: return trips.stream().flatMap(trip -> trip.legs.stream())
                    .filter(leg -> leg.aboard.contains(l))
                    .mapToInt(leg -> distance(leg.from, leg.to)).sum();
        }
    }

    int trip(int t, int what) {
        if (!has(trips, t) || what < 0 || what > 11) {
            return Probe.THROWS;
        }
        Trip trip = trips.get(t);
        switch (what) {
            case 0: return trip.truck;
            case 1: return trip.fuel;
            case 2: return longOf(trip);
            case 3: return emptyOf(trip);
            case 4: return trip.rides.keySet().stream().mapToInt(l -> 1 << l).sum();
            case 5: return partsOf(trip);
            case 6: return estimate(trip);
            case 7: return bill().closed[t];
            case 8: return bill().parted[t];
            case 9: return bill().goes[t];
            case 10: return trip.first;
            default: return trip.last;
        }
    }

    int share(int trip, int load) {
        if (!has(loads, load) || trip != NONE && !has(trips, trip)) {
            return NONE;
        }
        return bill().shares[load][trip == NONE ? trips.size() : trip];
    }

    int gap(int k, int what) {
        List<Gap> gaps = gaps();
        if (!has(gaps, k) || what < 0 || what > 2) {
            return NONE;
        }
        Gap gap = gaps.get(k);
        return what == 0 ? gap.owner : what == 1 ? gap.from : gap.to;
    }

    int way(int from, int to) {
        if (!has(places, from) || !has(places, to) || from == to) {
            return NONE;
        }
        return (int) trips.stream().flatMap(trip -> trip.legs.stream())
                .filter(leg -> leg.from == from && leg.to == to).count();
    }

    int busiest() {
        TreeMap<Integer, Integer> counts = new TreeMap<>();
        for (Trip trip : trips) {
            for (Leg leg : trip.legs) {
                if (leg.from != leg.to) {
                    counts.merge(100 * leg.from + leg.to, 1, Integer::sum);
                }
            }
        }
        int most = counts.values().stream().mapToInt(k -> k).max().orElse(0);
        return counts.keySet().stream().filter(way -> counts.get(way) == most).findFirst().orElse(NONE);
    }

    int hub(int place) {
        if (!has(places, place)) {
            return NONE;
        }
        int sum = 0;
        for (int l = 0; l < loads.size(); l++) {
            int load = l;
            List<int[]> rides = trips.stream().map(trip -> trip.rides.get(load))
                    .filter(ride -> ride != null).toList();
            for (int k = 1; k < rides.size(); k++) {
                if (rides.get(k - 1)[1] == place && rides.get(k)[0] == place) {
                    sum += loads.get(l).weight;
                }
            }
        }
        return sum;
    }

    int split(int load, int w, int what) {
        if (!has(loads, load) || what < 0 || what > 1 || w < 1 || w > loads.get(load).weight - 1
                || loads.size() == 16) {
            return NONE;
        }
        List<Integer> goAs = numbers();
        List<Integer> weights = weights();
        List<Boolean> riding = riding();
        goAs.add(load);
        weights.add(loads.get(load).weight - w);
        weights.set(load, w);
        riding.add(true);
        Bill bill = bill(goAs, weights, riding);
        return shareOf(bill, load) + (what == 0 ? shareOf(bill, loads.size()) : 0);
    }

    int without(int load, int other) {
        if (!has(loads, load) || !has(loads, other) || load == other) {
            return NONE;
        }
        List<Integer> weights = weights();
        List<Boolean> riding = riding();
        weights.set(load, 0);
        riding.set(load, false);
        return shareOf(bill(numbers(), weights, riding), other);
    }

    int dearest() {
        Bill bill = bill();
        int best = NONE;
        for (int t = 0; t < trips.size(); t++) {
            int parts = partsOf(trips.get(t));
            if (parts == 0) {
                continue;
            }
            if (best == NONE || BigInteger.valueOf(bill.parted[t])
                    .multiply(BigInteger.valueOf(partsOf(trips.get(best))))
                    .compareTo(BigInteger.valueOf(bill.parted[best])
                            .multiply(BigInteger.valueOf(parts))) > 0) {
                best = t;
            }
        }
        return best;
    }

    private void keep(Runnable undo) {
        undos.add(undo);
        if (undos.size() > 12) {
            undos.remove(0);
        }
    }

    int fuel(int trip, int v) {
        if (!has(trips, trip) || v < -1 || v > 9999 || trips.get(trip).fuel == v) {
            return -2;
        }
        Trip told = trips.get(trip);
        int before = told.fuel;
        told.fuel = v;
        keep(() -> told.fuel = before);
        return before;
    }

    int buy(int truck, int v) {
        if (!has(trucks, truck) || v < 0 || v > 9999 || trucks.get(truck).bought == v) {
            return -2;
        }
        Truck told = trucks.get(truck);
        int before = told.bought;
        told.bought = v;
        keep(() -> told.bought = before);
        return before;
    }

    int weigh(int load, int v) {
        if (!has(loads, load) || v < 1 || v > 99 || loads.get(load).weight == v) {
            return -2;
        }
        Load told = loads.get(load);
        int before = told.weight;
        told.weight = v;
        keep(() -> told.weight = before);
        return before;
    }

    int undo() {
        if (undos.isEmpty()) {
            return NONE;
        }
        undos.remove(undos.size() - 1).run();
        return undos.size();
    }
}
