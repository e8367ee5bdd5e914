import java.util.NoSuchElementException;

/**
 * A freight share desk. A text tells places, trucks, loads and trips; the desk closes what fuel
 * was bought over the trips and parts it to the loads. All rows are made once, by the constructor;
 * a call makes no object but the exception that it throws.
 */
public final class FreightShare {
    public static final int NONE = -1;

    private static final int REFUSED = -2;

    private static final int TAPE_BYTES = 840;
    private static final int TEXT_BYTES = 800;
    private static final int FEED_BYTES = 20;

    private static final int MAX_PLACES = 12;
    private static final int MAX_TRUCKS = 4;
    private static final int MAX_LOADS = 16;
    private static final int MAX_TRIPS = 16;
    /** Far above what a text can hold: a step takes five of its bytes, blanks counted. */
    private static final int MAX_STEPS = 200;
    private static final int MAX_GAPS = MAX_TRIPS + MAX_LOADS * (MAX_TRIPS + 1);
    private static final int MAX_UNDO = 12;
    /** A number is parted to trips or to loads. */
    private static final int MAX_MEASURES = 16;

    private static final int MAX_RATE = 999;
    private static final int MAX_COORDINATE = 99;
    private static final int MAX_USE = 999;
    private static final int MAX_FUEL = 9999;
    private static final int MAX_WEIGHT = 99;
    private static final int MAX_DIGITS = 4;
    private static final int MAX_FIELDS = 3;

    private static final int NOT_EXPECTED = 1;
    private static final int BAD_NUMBER = 2;
    private static final int NOT_TOLD = 3;
    private static final int TOO_MANY = 4;

    private static final int AT_END = 0;
    private static final int NO_TOKEN = 1;
    private static final int NUMBER = 2;
    private static final int SEMICOLON = 3;
    private static final int OTHER_WORD = 4;
    private static final int DESK_WORD = 5;
    private static final int PLACE_WORD = 6;
    private static final int TRUCK_WORD = 7;
    private static final int LOAD_WORD = 8;
    private static final int TRIP_WORD = 9;
    private static final int NONE_WORD = 10;
    private static final int TO_WORD = 11;
    private static final int ON_WORD = 12;
    private static final int OFF_WORD = 13;
    private static final int NO_WORD = -1;

    private static final int FUEL_CHANGE = 0;
    private static final int BUY_CHANGE = 1;
    private static final int WEIGH_CHANGE = 2;

    /** In gap(), a load's number stands this far above those of trucks. */
    private static final int LOAD_OWNER = 100;
    private static final int WAY_FACTOR = 100;

    private final Tape tape;
    private final Reader reader;
    private final Routes routes;
    private final Ledger ledger;
    private final Ledger paper;
    private final History history;
    private Desk desk;
    private Desk spareDesk;
    private int latestFault;

    public FreightShare() {
        tape = new Tape();
        reader = new Reader(tape);
        routes = new Routes();
        ledger = new Ledger();
        paper = new Ledger();
        history = new History();
        desk = new Desk();
        spareDesk = new Desk();
        latestFault = 0;
    }

    // ---- the tape and the text

    public int feed(int a, int b, int c, int d, int e) {
        if (tape.size > TAPE_BYTES - FEED_BYTES) {
            return NONE;
        }
        tape.addNumber(a);
        tape.addNumber(b);
        tape.addNumber(c);
        tape.addNumber(d);
        tape.addNumber(e);
        return tape.size;
    }

    public boolean end(int n) {
        if (n < 0 || n > tape.size) {
            return false;
        }
        tape.size = n;
        return true;
    }

    public int text() {
        // A text with a fault must leave all as it was, so it is read into the spare desk.
        boolean right = reader.read(spareDesk);
        tape.size = 0;
        latestFault = reader.faultKind;
        if (!right) {
            return -1 - reader.faultPlace;
        }
        Desk told = spareDesk;
        spareDesk = desk;
        desk = told;
        history.count = 0;
        routes.survey(desk);
        settle();
        return reader.lines;
    }

    public int fault() {
        return latestFault;
    }

    // ---- what the desk comes to

    public int now(int what) {
        switch (what) {
            case 0: return desk.rate;
            case 1: return desk.places;
            case 2: return desk.trucks;
            case 3: return desk.loads;
            case 4: return desk.trips;
            case 5: return sumOf(desk.bought, desk.trucks);
            case 6: return sumOf(ledger.total, desk.loads);
            case 7: return ledger.open;
            case 8: return hubBits();
            case 9: return routes.gaps;
            case 10: return history.count;
            case 11: return tape.size;
            default: return NONE;
        }
    }

    public int direct(int a, int b) {
        if (!isIn(a, desk.places) || !isIn(b, desk.places)) {
            return NONE;
        }
        return desk.distance(a, b);
    }

    public int truck(int truck, int what) {
        if (!isIn(truck, desk.trucks)) {
            return NONE;
        }
        switch (what) {
            case 0: return desk.use[truck];
            case 1: return desk.bought[truck];
            case 2: return tripBits(truck);
            case 3: return sumOverTrips(truck, routes.tripLong);
            case 4: return sumOverTrips(truck, routes.tripEmpty);
            case 5: return desk.fuelTold(truck);
            case 6: return lastPlace(truck);
            case 7: return sumOverTrips(truck, ledger.estimate);
            default: return NONE;
        }
    }

    public int load(int load, int what) throws NoSuchElementException {
        if (!isIn(load, desk.loads)) {
            throw new NoSuchElementException("no such load");
        }
        switch (what) {
            case 0: return desk.weight[load];
            case 1: return desk.from[load];
            case 2: return desk.to[load];
            case 3: return desk.distance(desk.from[load], desk.to[load]);
            case 4: return tripBitsOfLoad(load);
            case 5: return partsOfLoad(load);
            case 6: return ledger.total[load];
            case 7: return due(load);
            case 8: return routes.loadGaps[load];
            case 9: return routes.loadLong[load];
            default: throw new NoSuchElementException("nothing such of a load");
        }
    }

    public int trip(int trip, int what) throws NoSuchElementException {
        if (!isIn(trip, desk.trips)) {
            throw new NoSuchElementException("no such trip");
        }
        switch (what) {
            case 0: return desk.tripTruck[trip];
            case 1: return desk.tripFuel[trip];
            case 2: return routes.tripLong[trip];
            case 3: return routes.tripEmpty[trip];
            case 4: return routes.tripLoads[trip];
            case 5: return ledger.partsOfTrip[trip];
            case 6: return ledger.estimate[trip];
            case 7: return ledger.closed[trip];
            case 8: return ledger.parted[trip];
            case 9: return ledger.goesTo[trip];
            case 10: return desk.tripStart[trip];
            case 11: return routes.tripLast[trip];
            default: throw new NoSuchElementException("nothing such of a trip");
        }
    }

    public int share(int trip, int load) {
        if (!isIn(load, desk.loads)) {
            return NONE;
        }
        if (trip == NONE) {
            return ledger.ofOpen[load];
        }
        if (!isIn(trip, desk.trips)) {
            return NONE;
        }
        return ledger.ofTrip[trip][load];
    }

    public int gap(int k, int what) {
        if (!isIn(k, routes.gaps)) {
            return NONE;
        }
        switch (what) {
            case 0: return routes.gapOwner[k];
            case 1: return routes.gapFrom[k];
            case 2: return routes.gapTo[k];
            default: return NONE;
        }
    }

    public int way(int from, int to) {
        if (!isIn(from, desk.places) || !isIn(to, desk.places) || from == to) {
            return NONE;
        }
        return routes.ways[from][to];
    }

    public int busiest() {
        int best = NONE;
        int most = 0;
        for (int from = 0; from < desk.places; from++) {
            for (int to = 0; to < desk.places; to++) {
                if (from != to && routes.ways[from][to] > most) {
                    most = routes.ways[from][to];
                    best = WAY_FACTOR * from + to;
                }
            }
        }
        return best;
    }

    public int hub(int place) {
        if (!isIn(place, desk.places)) {
            return NONE;
        }
        int sum = 0;
        for (int load = 0; load < desk.loads; load++) {
            sum += desk.weight[load] * routes.changes[load][place];
        }
        return sum;
    }

    public int dearest() {
        int best = NONE;
        for (int trip = 0; trip < desk.trips; trip++) {
            if (ledger.isIdle(trip)) {
                continue;
            }
            if (best == NONE || isDearer(trip, best)) {
                best = trip;
            }
        }
        return best;
    }

    // ---- on paper

    public int split(int load, int w, int what) {
        if (!isIn(load, desk.loads) || desk.loads >= MAX_LOADS) {
            return NONE;
        }
        if (w < 1 || w >= desk.weight[load] || what < 0 || what > 1) {
            return NONE;
        }
        int other = desk.loads;
        paper.takeLoads(desk);
        paper.splitLoad(load, w);
        paper.settle(desk, routes);
        return what == 1 ? paper.total[load] : paper.total[load] + paper.total[other];
    }

    public int without(int load, int other) {
        if (!isIn(load, desk.loads) || !isIn(other, desk.loads) || load == other) {
            return NONE;
        }
        paper.takeLoads(desk);
        // A load of weight 0 has parts of 0 alone, so that it is on trips or not bears on nobody.
        paper.weight[load] = 0;
        paper.settle(desk, routes);
        return paper.total[other];
    }

    // ---- told anew

    public int fuel(int trip, int v) {
        if (!isIn(trip, desk.trips) || v < NONE || v > MAX_FUEL) {
            return REFUSED;
        }
        return change(FUEL_CHANGE, desk.tripFuel, trip, v);
    }

    public int buy(int truck, int v) {
        if (!isIn(truck, desk.trucks) || v < 0 || v > MAX_FUEL) {
            return REFUSED;
        }
        return change(BUY_CHANGE, desk.bought, truck, v);
    }

    public int weigh(int load, int v) {
        if (!isIn(load, desk.loads) || v < 1 || v > MAX_WEIGHT) {
            return REFUSED;
        }
        return change(WEIGH_CHANGE, desk.weight, load, v);
    }

    public int undo() {
        if (history.count <= 0) {
            return NONE;
        }
        history.count--;
        int[] row = rowOf(history.kind[history.count]);
        row[history.index[history.count]] = history.before[history.count];
        settle();
        return history.count;
    }

    // ---- helpers of the face

    private static boolean isIn(int index, int count) {
        return index >= 0 && index < count;
    }

    private static int sumOf(int[] row, int count) {
        int sum = 0;
        for (int k = 0; k < count && k < row.length; k++) {
            sum += row[k];
        }
        return sum;
    }

    private void settle() {
        ledger.takeLoads(desk);
        ledger.settle(desk, routes);
    }

    private int change(int kind, int[] row, int index, int value) {
        int before = row[index];
        if (before == value) {
            return REFUSED;
        }
        row[index] = value;
        history.keep(kind, index, before);
        settle();
        return before;
    }

    private int[] rowOf(int kind) {
        switch (kind) {
            case FUEL_CHANGE: return desk.tripFuel;
            case BUY_CHANGE: return desk.bought;
            default: return desk.weight;
        }
    }

    private int hubBits() {
        int bits = 0;
        for (int load = 0; load < desk.loads; load++) {
            for (int place = 0; place < desk.places; place++) {
                if (routes.changes[load][place] > 0) {
                    bits |= 1 << place;
                }
            }
        }
        return bits;
    }

    private int tripBits(int truck) {
        int bits = 0;
        for (int trip = 0; trip < desk.trips; trip++) {
            if (desk.tripTruck[trip] == truck) {
                bits |= 1 << trip;
            }
        }
        return bits;
    }

    private int sumOverTrips(int truck, int[] row) {
        int sum = 0;
        for (int trip = 0; trip < desk.trips && trip < row.length; trip++) {
            if (desk.tripTruck[trip] == truck) {
                sum += row[trip];
            }
        }
        return sum;
    }

    private int lastPlace(int truck) {
        int place = NONE;
        for (int trip = 0; trip < desk.trips; trip++) {
            if (desk.tripTruck[trip] == truck) {
                place = routes.tripLast[trip];
            }
        }
        return place;
    }

    private int tripBitsOfLoad(int load) {
        int bits = 0;
        for (int trip = 0; trip < desk.trips; trip++) {
            if ((routes.tripLoads[trip] >> load & 1) != 0) {
                bits |= 1 << trip;
            }
        }
        return bits;
    }

    private int partsOfLoad(int load) {
        int sum = 0;
        for (int trip = 0; trip < desk.trips; trip++) {
            sum += ledger.parts[trip][load];
        }
        return sum;
    }

    private int due(int load) {
        long cost = (long) desk.weight[load] * routes.loadGapLong[load] * desk.rate;
        return (int) ((cost + 999) / 1000);
    }

    /** Whether what one trip parts, by its parts, is more than the other's; neither is idle. */
    private boolean isDearer(int one, int other) {
        long mine = (long) ledger.parted[one] * ledger.partsOfTrip[other];
        long others = (long) ledger.parted[other] * ledger.partsOfTrip[one];
        return mine > others;
    }

    /** The bytes that were fed and are not read yet. */
    private static final class Tape {
        final byte[] bytes = new byte[TAPE_BYTES];
        int size;

        void addNumber(int number) {
            addByte(number >>> 24);
            addByte(number >>> 16);
            addByte(number >>> 8);
            addByte(number);
        }

        private void addByte(int value) {
            if (size >= 0 && size < bytes.length) {
                bytes[size] = (byte) value;
                size++;
            }
        }

        /** The byte at a place, or 0, which is part of no token, where there is none. */
        int byteAt(int place) {
            if (place < 0 || place >= size || place >= bytes.length) {
                return 0;
            }
            return bytes[place] & 255;
        }
    }

    /** Tells the tape's tokens one by one. */
    private static final class Scanner {
        final Tape tape;
        int kind;
        int start;
        int value;
        private int at;
        private int limit;

        Scanner(Tape tape) {
            this.tape = tape;
        }

        void begin() {
            at = 0;
            // Tokens begin below the limit; one that does may reach beyond it.
            limit = Math.min(tape.size, TEXT_BYTES);
        }

        boolean hasTooMany() {
            return tape.size > TEXT_BYTES;
        }

        void next() {
            while (at < limit && isBlank(tape.byteAt(at))) {
                at++;
            }
            if (at >= limit) {
                start = limit;
                kind = AT_END;
                return;
            }
            start = at;
            if (tape.byteAt(at) == ';') {
                at++;
                kind = SEMICOLON;
                return;
            }
            kind = readRun();
        }

        private int readRun() {
            int letters = 0;
            int digits = 0;
            value = 0;
            while (at < tape.size) {
                int sign = tape.byteAt(at);
                if (isLetter(sign)) {
                    letters++;
                } else if (isDigit(sign)) {
                    digits++;
                    value = value * 10 + (sign - '0');
                } else {
                    break;
                }
                at++;
            }
            if (letters == 0) {
                return digits >= 1 && digits <= MAX_DIGITS ? NUMBER : NO_TOKEN;
            }
            return digits == 0 ? wordKind() : NO_TOKEN;
        }

        private int wordKind() {
            if (spells("to")) {
                return TO_WORD;
            }
            if (spells("on")) {
                return ON_WORD;
            }
            if (spells("off")) {
                return OFF_WORD;
            }
            if (spells("none")) {
                return NONE_WORD;
            }
            if (spells("desk")) {
                return DESK_WORD;
            }
            if (spells("place")) {
                return PLACE_WORD;
            }
            if (spells("truck")) {
                return TRUCK_WORD;
            }
            if (spells("load")) {
                return LOAD_WORD;
            }
            return spells("trip") ? TRIP_WORD : OTHER_WORD;
        }

        private boolean spells(String word) {
            if (at - start != word.length()) {
                return false;
            }
            for (int k = 0; k < word.length(); k++) {
                if (tape.byteAt(start + k) != word.charAt(k)) {
                    return false;
                }
            }
            return true;
        }

        private static boolean isBlank(int sign) {
            return sign == 32 || sign == 10;
        }

        private static boolean isLetter(int sign) {
            return sign >= 'a' && sign <= 'z';
        }

        private static boolean isDigit(int sign) {
            return sign >= '0' && sign <= '9';
        }
    }

    /** Reads the tape as a text, token by token, up to its first fault. */
    private static final class Reader {
        private final Scanner tokens;
        private Desk target;
        int lines;
        int faultKind;
        int faultPlace;
        /** The word that the present line began with; NO_WORD between lines. */
        private int lineWord;
        /** The numbers of the present line, without a trip's steps, as far as they were told. */
        private final int[] told = new int[MAX_FIELDS];
        private int toldCount;
        private int wanted;
        /** The word of a step whose number is still to come; NO_WORD, if none is. */
        private int stepWord;
        private int aboard;
        private int wasAboard;

        Reader(Tape tape) {
            tokens = new Scanner(tape);
        }

        /** Whether the tape is a text; the desk then holds what it tells. */
        boolean read(Desk into) {
            target = into;
            target.clear();
            lines = 0;
            faultKind = 0;
            faultPlace = 0;
            lineWord = NO_WORD;
            tokens.begin();
            for (int k = 0; k <= TAPE_BYTES; k++) {
                tokens.next();
                if (tokens.kind == AT_END) {
                    break;
                }
                if (!takeToken()) {
                    return false;
                }
            }
            boolean whole = lineWord == NO_WORD && !tokens.hasTooMany();
            return whole || refuse(NOT_EXPECTED);
        }

        /** Always false, so that a method that takes a token can end with it. */
        private boolean refuse(int kind) {
            faultKind = kind;
            faultPlace = tokens.start;
            return false;
        }

        private boolean takeToken() {
            if (lineWord == NO_WORD) {
                return beginLine();
            }
            if (toldCount < wanted) {
                return takeField();
            }
            if (lineWord == TRIP_WORD) {
                return takeStep();
            }
            return tokens.kind == SEMICOLON ? endLine() : refuse(NOT_EXPECTED);
        }

        private boolean beginLine() {
            int word = tokens.kind;
            if ((word == DESK_WORD) != (lines == 0)) {
                return refuse(NOT_EXPECTED);
            }
            switch (word) {
                case DESK_WORD: return beginLineOf(word, 1, true);
                case PLACE_WORD: return beginLineOf(word, 2, target.places < MAX_PLACES);
                case TRUCK_WORD: return beginLineOf(word, 2, target.trucks < MAX_TRUCKS);
                case LOAD_WORD: return beginLineOf(word, 3, target.loads < MAX_LOADS);
                case TRIP_WORD: return beginLineOf(word, 3, target.trips < MAX_TRIPS);
                default: return refuse(NOT_EXPECTED);
            }
        }

        private boolean beginLineOf(int word, int fields, boolean hasRoom) {
            if (!hasRoom) {
                return refuse(TOO_MANY);
            }
            lineWord = word;
            wanted = fields;
            toldCount = 0;
            stepWord = NO_WORD;
            aboard = 0;
            wasAboard = 0;
            return true;
        }

        private boolean takeField() {
            switch (lineWord) {
                case DESK_WORD: return takeNumber(0, MAX_RATE);
                case PLACE_WORD: return takeNumber(0, MAX_COORDINATE);
                case TRUCK_WORD: return takeNumber(0, toldCount == 0 ? MAX_USE : MAX_FUEL);
                case LOAD_WORD: return takeFieldOfLoad();
                default: return takeFieldOfTrip();
            }
        }

        private boolean takeFieldOfLoad() {
            if (toldCount == 0) {
                return takeNumber(1, MAX_WEIGHT);
            }
            if (!takeNumberTold(target.places)) {
                return false;
            }
            boolean alike = toldCount == 3 && told[1] == told[2];
            return !alike || refuse(NOT_TOLD);
        }

        private boolean takeFieldOfTrip() {
            if (toldCount == 0) {
                return takeNumberTold(target.trucks);
            }
            if (toldCount == 1) {
                return tokens.kind == NONE_WORD ? keepField(NONE) : takeNumber(0, MAX_FUEL);
            }
            if (!takeNumberTold(target.places)) {
                return false;
            }
            target.addTrip(told[0], told[1], told[2]);
            return true;
        }

        private boolean takeNumber(int least, int most) {
            if (tokens.kind != NUMBER) {
                return refuse(NOT_EXPECTED);
            }
            if (tokens.value < least || tokens.value > most) {
                return refuse(BAD_NUMBER);
            }
            return keepField(tokens.value);
        }

        private boolean takeNumberTold(int count) {
            return isNumberTold(count) && keepField(tokens.value);
        }

        private boolean isNumberTold(int count) {
            if (tokens.kind != NUMBER) {
                return refuse(NOT_EXPECTED);
            }
            return tokens.value < count || refuse(NOT_TOLD);
        }

        private boolean keepField(int value) {
            if (toldCount < MAX_FIELDS) {
                told[toldCount] = value;
                toldCount++;
            }
            return true;
        }

        private boolean takeStep() {
            if (stepWord != NO_WORD) {
                return takeNumberOfStep();
            }
            switch (tokens.kind) {
                case TO_WORD:
                case ON_WORD:
                case OFF_WORD:
                    stepWord = tokens.kind;
                    return true;
                case SEMICOLON:
                    return aboard == 0 ? endLine() : refuse(NOT_TOLD);
                default:
                    return refuse(NOT_EXPECTED);
            }
        }

        private boolean takeNumberOfStep() {
            if (!isNumberTold(stepWord == TO_WORD ? target.places : target.loads)) {
                return false;
            }
            int which = tokens.value;
            if (stepWord == ON_WORD) {
                if ((wasAboard >> which & 1) != 0) {
                    return refuse(NOT_TOLD);
                }
                aboard |= 1 << which;
                wasAboard |= 1 << which;
            } else if (stepWord == OFF_WORD) {
                if ((aboard >> which & 1) == 0) {
                    return refuse(NOT_TOLD);
                }
                aboard &= ~(1 << which);
            }
            target.addStep(stepWord, which);
            stepWord = NO_WORD;
            return true;
        }

        private boolean endLine() {
            switch (lineWord) {
                case DESK_WORD: target.rate = told[0]; break;
                case PLACE_WORD: target.addPlace(told[0], told[1]); break;
                case TRUCK_WORD: target.addTruck(told[0], told[1]); break;
                case LOAD_WORD: target.addLoad(told[0], told[1], told[2]); break;
                default: break; // a trip was added ahead of its steps
            }
            lineWord = NO_WORD;
            lines++;
            return true;
        }
    }

    /** What a text told, with what was told anew since. */
    private static final class Desk {
        int rate;
        int places;
        int trucks;
        int loads;
        int trips;
        int steps;
        final int[] x = new int[MAX_PLACES];
        final int[] y = new int[MAX_PLACES];
        final int[] use = new int[MAX_TRUCKS];
        final int[] bought = new int[MAX_TRUCKS];
        final int[] weight = new int[MAX_LOADS];
        final int[] from = new int[MAX_LOADS];
        final int[] to = new int[MAX_LOADS];
        final int[] tripTruck = new int[MAX_TRIPS];
        final int[] tripFuel = new int[MAX_TRIPS];
        final int[] tripStart = new int[MAX_TRIPS];
        /** Steps of all trips stand in one row; a trip's end where the next one's begin. */
        final int[] tripStepsEnd = new int[MAX_TRIPS];
        final int[] stepKind = new int[MAX_STEPS];
        final int[] stepWhich = new int[MAX_STEPS];

        void clear() {
            rate = 0;
            places = 0;
            trucks = 0;
            loads = 0;
            trips = 0;
            steps = 0;
        }

        void addPlace(int newX, int newY) {
            if (places < MAX_PLACES) {
                x[places] = newX;
                y[places] = newY;
                places++;
            }
        }

        void addTruck(int newUse, int newBought) {
            if (trucks < MAX_TRUCKS) {
                use[trucks] = newUse;
                bought[trucks] = newBought;
                trucks++;
            }
        }

        void addLoad(int newWeight, int newFrom, int newTo) {
            if (loads < MAX_LOADS) {
                weight[loads] = newWeight;
                from[loads] = newFrom;
                to[loads] = newTo;
                loads++;
            }
        }

        void addTrip(int truck, int fuel, int start) {
            if (trips < MAX_TRIPS) {
                tripTruck[trips] = truck;
                tripFuel[trips] = fuel;
                tripStart[trips] = start;
                tripStepsEnd[trips] = steps;
                trips++;
            }
        }

        void addStep(int kind, int which) {
            if (trips > 0 && trips <= MAX_TRIPS && steps < MAX_STEPS) {
                stepKind[steps] = kind;
                stepWhich[steps] = which;
                steps++;
                tripStepsEnd[trips - 1] = steps;
            }
        }

        int firstStep(int trip) {
            return trip > 0 && trip < MAX_TRIPS ? tripStepsEnd[trip - 1] : 0;
        }

        int fuelTold(int truck) {
            int sum = 0;
            for (int trip = 0; trip < trips; trip++) {
                if (tripTruck[trip] == truck && tripFuel[trip] != NONE) {
                    sum += tripFuel[trip];
                }
            }
            return sum;
        }

        int distance(int a, int b) {
            return Math.abs(x[a] - x[b]) + Math.abs(y[a] - y[b]);
        }
    }

    /** What follows from places, loads' ends and trips' steps alone: no weight, no fuel. */
    private static final class Routes {
        private Desk desk;
        final int[] tripLong = new int[MAX_TRIPS];
        final int[] tripEmpty = new int[MAX_TRIPS];
        final int[] tripLast = new int[MAX_TRIPS];
        final int[] tripLoads = new int[MAX_TRIPS];
        /** By trip and load; where tripLoads has no such bit, they hold nothing. */
        final int[][] takenOn = new int[MAX_TRIPS][MAX_LOADS];
        final int[][] takenOff = new int[MAX_TRIPS][MAX_LOADS];
        final int[][] ways = new int[MAX_PLACES][MAX_PLACES];
        /** By load and place: how often it changed trips there. */
        final int[][] changes = new int[MAX_LOADS][MAX_PLACES];
        final int[] loadLong = new int[MAX_LOADS];
        final int[] loadGaps = new int[MAX_LOADS];
        final int[] loadGapLong = new int[MAX_LOADS];
        int gaps;
        final int[] gapOwner = new int[MAX_GAPS];
        final int[] gapFrom = new int[MAX_GAPS];
        final int[] gapTo = new int[MAX_GAPS];

        void survey(Desk told) {
            desk = told;
            clear();
            for (int trip = 0; trip < desk.trips; trip++) {
                drive(trip);
            }
            for (int truck = 0; truck < desk.trucks; truck++) {
                findGapsOfTruck(truck);
            }
            for (int load = 0; load < desk.loads; load++) {
                followLoad(load);
            }
        }

        private void clear() {
            gaps = 0;
            for (int trip = 0; trip < MAX_TRIPS; trip++) {
                tripLong[trip] = 0;
                tripEmpty[trip] = 0;
                tripLast[trip] = 0;
                tripLoads[trip] = 0;
            }
            for (int load = 0; load < MAX_LOADS; load++) {
                loadLong[load] = 0;
                loadGaps[load] = 0;
                loadGapLong[load] = 0;
                for (int place = 0; place < MAX_PLACES; place++) {
                    changes[load][place] = 0;
                }
            }
            for (int from = 0; from < MAX_PLACES; from++) {
                for (int to = 0; to < MAX_PLACES; to++) {
                    ways[from][to] = 0;
                }
            }
        }

        private void drive(int trip) {
            int at = desk.tripStart[trip];
            int aboard = 0;
            for (int step = desk.firstStep(trip); step < desk.tripStepsEnd[trip]; step++) {
                int which = desk.stepWhich[step];
                int kind = desk.stepKind[step];
                if (kind == TO_WORD) {
                    driveLeg(trip, aboard, at, which);
                    at = which;
                } else if (kind == ON_WORD) {
                    aboard |= 1 << which;
                    tripLoads[trip] |= 1 << which;
                    takenOn[trip][which] = at;
                } else {
                    aboard &= ~(1 << which);
                    takenOff[trip][which] = at;
                }
            }
            tripLast[trip] = at;
        }

        private void driveLeg(int trip, int aboard, int from, int to) {
            int length = desk.distance(from, to);
            tripLong[trip] += length;
            if (aboard == 0) {
                tripEmpty[trip] += length;
            }
            for (int load = 0; load < desk.loads; load++) {
                if ((aboard >> load & 1) != 0) {
                    loadLong[load] += length;
                }
            }
            if (from != to) {
                ways[from][to]++;
            }
        }

        private void findGapsOfTruck(int truck) {
            int at = NONE;
            for (int trip = 0; trip < desk.trips; trip++) {
                if (desk.tripTruck[trip] != truck) {
                    continue;
                }
                if (at != NONE && at != desk.tripStart[trip]) {
                    addGap(truck, at, desk.tripStart[trip]);
                }
                at = tripLast[trip];
            }
        }

        private void followLoad(int load) {
            int at = desk.from[load];
            boolean wasOff = false;
            for (int trip = 0; trip < desk.trips; trip++) {
                if ((tripLoads[trip] >> load & 1) == 0) {
                    continue;
                }
                int next = takenOn[trip][load];
                if (next != at) {
                    addGapOfLoad(load, at, next);
                } else if (wasOff) {
                    changes[load][at]++;
                }
                at = takenOff[trip][load];
                wasOff = true;
            }
            if (at != desk.to[load]) {
                addGapOfLoad(load, at, desk.to[load]);
            }
        }

        private void addGapOfLoad(int load, int from, int to) {
            addGap(LOAD_OWNER + load, from, to);
            loadGaps[load]++;
            loadGapLong[load] += desk.distance(from, to);
        }

        private void addGap(int owner, int from, int to) {
            if (gaps < MAX_GAPS) {
                gapOwner[gaps] = owner;
                gapFrom[gaps] = from;
                gapTo[gaps] = to;
                gaps++;
            }
        }
    }

    /** Parts a number by measures. */
    private static final class Parter {
        final int[] gets = new int[MAX_MEASURES];
        private final int[] measure = new int[MAX_MEASURES];
        private final long[] remainder = new long[MAX_MEASURES];
        int count;

        void begin() {
            count = 0;
        }

        void add(int newMeasure) {
            if (count < MAX_MEASURES) {
                measure[count] = newMeasure;
                count++;
            }
        }

        void divide(int number) {
            long all = 0;
            for (int k = 0; k < count; k++) {
                all += measure[k];
                gets[k] = 0;
            }
            if (all <= 0) {
                gets[0] = number;
                return;
            }
            int left = number;
            for (int k = 0; k < count; k++) {
                long product = (long) number * measure[k];
                gets[k] = (int) (product / all);
                remainder[k] = product % all;
                left -= gets[k];
            }
            // Remainders together are what is left times all, each below all: so fewer than count are left.
            for (int k = 0; k < left && k < count; k++) {
                giveOne();
            }
        }

        private void giveOne() {
            int best = 0;
            for (int k = 1; k < count; k++) {
                if (remainder[k] > remainder[best]) {
                    best = k;
                }
            }
            gets[best]++;
            remainder[best] = -1;
        }
    }

    /** Who bears what. The loads' weights are its own, so that one can be written on paper too. */
    private static final class Ledger {
        private final Parter parter = new Parter();
        private Desk desk;
        private Routes routes;
        private int loads;
        final int[] weight = new int[MAX_LOADS];
        /** The load of the desk on whose ways each load goes. */
        private final int[] goesAs = new int[MAX_LOADS];
        final int[] estimate = new int[MAX_TRIPS];
        final int[] closed = new int[MAX_TRIPS];
        final int[][] parts = new int[MAX_TRIPS][MAX_LOADS];
        final int[] partsOfTrip = new int[MAX_TRIPS];
        final int[] goesTo = new int[MAX_TRIPS];
        final int[] parted = new int[MAX_TRIPS];
        final int[][] ofTrip = new int[MAX_TRIPS][MAX_LOADS];
        int open;
        final int[] ofOpen = new int[MAX_LOADS];
        final int[] total = new int[MAX_LOADS];

        void takeLoads(Desk told) {
            loads = told.loads;
            for (int load = 0; load < loads; load++) {
                weight[load] = told.weight[load];
                goesAs[load] = load;
            }
        }

        void splitLoad(int load, int w) {
            if (loads < MAX_LOADS) {
                weight[loads] = weight[load] - w;
                goesAs[loads] = load;
                weight[load] = w;
                loads++;
            }
        }

        void settle(Desk told, Routes driven) {
            desk = told;
            routes = driven;
            open = 0;
            for (int load = 0; load < MAX_LOADS; load++) {
                total[load] = 0;
            }
            for (int trip = 0; trip < desk.trips; trip++) {
                estimate[trip] = estimateOf(trip);
                measureParts(trip);
            }
            for (int truck = 0; truck < desk.trucks; truck++) {
                closeTruck(truck);
            }
            gatherIdle();
            for (int trip = 0; trip < desk.trips; trip++) {
                partTrip(trip);
            }
            partOpen();
        }

        boolean isIdle(int trip) {
            return partsOfTrip[trip] == 0;
        }

        private int estimateOf(int trip) {
            if (desk.tripFuel[trip] != NONE) {
                return desk.tripFuel[trip];
            }
            return (desk.use[desk.tripTruck[trip]] * routes.tripLong[trip] + 99) / 100;
        }

        private void measureParts(int trip) {
            partsOfTrip[trip] = 0;
            for (int load = 0; load < loads; load++) {
                int as = goesAs[load];
                parts[trip][load] = 0;
                if ((routes.tripLoads[trip] >> as & 1) != 0) {
                    int way = desk.distance(routes.takenOn[trip][as], routes.takenOff[trip][as]);
                    parts[trip][load] = weight[load] * way;
                }
                partsOfTrip[trip] += parts[trip][load];
            }
        }

        private void closeTruck(int truck) {
            int bought = desk.bought[truck];
            int toldFuel = desk.fuelTold(truck);
            boolean keepsTold = sumOfMissing(truck) > 0 && toldFuel <= bought;
            parter.begin();
            for (int trip = 0; trip < desk.trips; trip++) {
                if (isParted(trip, truck, keepsTold)) {
                    parter.add(estimate[trip]);
                } else if (desk.tripTruck[trip] == truck) {
                    closed[trip] = desk.tripFuel[trip];
                }
            }
            // Where fuel told is kept, some trip without is parted to: so none means no trips.
            if (parter.count == 0) {
                open += bought;
                return;
            }
            parter.divide(keepsTold ? bought - toldFuel : bought);
            int next = 0;
            for (int trip = 0; trip < desk.trips && next < parter.count; trip++) {
                if (isParted(trip, truck, keepsTold)) {
                    closed[trip] = parter.gets[next];
                    next++;
                }
            }
        }

        private boolean isParted(int trip, int truck, boolean keepsTold) {
            return desk.tripTruck[trip] == truck && !(keepsTold && desk.tripFuel[trip] != NONE);
        }

        /** The estimates of a truck's trips without fuel told. */
        private int sumOfMissing(int truck) {
            int sum = 0;
            for (int trip = 0; trip < desk.trips; trip++) {
                if (desk.tripTruck[trip] == truck && desk.tripFuel[trip] == NONE) {
                    sum += estimate[trip];
                }
            }
            return sum;
        }

        private void gatherIdle() {
            for (int trip = 0; trip < desk.trips; trip++) {
                parted[trip] = 0;
            }
            for (int trip = 0; trip < desk.trips; trip++) {
                goesTo[trip] = NONE;
                if (!isIdle(trip)) {
                    parted[trip] += closed[trip];
                    continue;
                }
                int heir = heirOf(trip);
                goesTo[trip] = heir;
                if (heir == NONE) {
                    open += closed[trip];
                } else {
                    parted[heir] += closed[trip];
                }
            }
        }

        private int heirOf(int idle) {
            int truck = desk.tripTruck[idle];
            for (int trip = idle - 1; trip >= 0; trip--) {
                if (desk.tripTruck[trip] == truck && !isIdle(trip)) {
                    return trip;
                }
            }
            for (int trip = idle + 1; trip < desk.trips; trip++) {
                if (desk.tripTruck[trip] == truck && !isIdle(trip)) {
                    return trip;
                }
            }
            return NONE;
        }

        private void partTrip(int trip) {
            boolean idle = isIdle(trip);
            // Loads that are not on the trip have parts of 0 and get nothing: one part is above 0.
            if (!idle) {
                parter.begin();
                for (int load = 0; load < loads; load++) {
                    parter.add(parts[trip][load]);
                }
                parter.divide(parted[trip]);
            }
            for (int load = 0; load < loads; load++) {
                ofTrip[trip][load] = idle ? 0 : parter.gets[load];
                total[load] += ofTrip[trip][load];
            }
        }

        private void partOpen() {
            parter.begin();
            for (int load = 0; load < loads; load++) {
                int as = goesAs[load];
                parter.add(weight[load] * desk.distance(desk.from[as], desk.to[as]));
            }
            parter.divide(open);
            for (int load = 0; load < loads; load++) {
                ofOpen[load] = parter.gets[load];
                total[load] += ofOpen[load];
            }
        }
    }

    /** The latest changes, the newest last, with what was there before. */
    private static final class History {
        final int[] kind = new int[MAX_UNDO];
        final int[] index = new int[MAX_UNDO];
        final int[] before = new int[MAX_UNDO];
        int count;

        void keep(int newKind, int newIndex, int newBefore) {
            if (count >= MAX_UNDO) {
                forgetOldest();
            }
            if (count >= 0 && count < MAX_UNDO) {
                kind[count] = newKind;
                index[count] = newIndex;
                before[count] = newBefore;
                count++;
            }
        }

        private void forgetOldest() {
            for (int k = 1; k < MAX_UNDO; k++) {
                kind[k - 1] = kind[k];
                index[k - 1] = index[k];
                before[k - 1] = before[k];
            }
            count = MAX_UNDO - 1;
        }
    }
}
