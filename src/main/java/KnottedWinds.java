/** Sailors' winds tied into cords: a sea of cells, ships, knots that blow, and what would be. */
public final class KnottedWinds {
    private static final int LOW = -1000000000;
    private static final int BEYOND = 1;
    private static final int NONE = 2;
    private static final int STATE = 3;
    private static final int FULL = 4;
    private static final int NOT_OF_KIND = 5;
    private static final int PARTED = 6;
    private static final int ERRORS = 6;

    private static final int SIDE = 8;
    private static final int CELLS = SIDE * SIDE;
    private static final int LAND = 1;
    private static final int LAST_HOUR = 9999;
    private static final int MOST_DRIFT = 9;

    private static final int MOST_SHIPS = 5;
    private static final int SAILING = 0;
    private static final int WRECKED = 1;
    private static final int HOME = 2;
    private static final int SHIP_FACTS = 5;

    private static final int EACH = 3;
    private static final int MOST_KNOTS = MOST_SHIPS * EACH;
    private static final int NO_KNOT = 3;
    private static final int TIED = -1;
    private static final int WAYS = 4;
    private static final int KNOT_FACTS = 6;

    private static final int KNOT = 0;
    private static final int LEFT = 1;
    private static final int SLOW = 2;
    private static final int EMPTY = 3;
    private static final int JOINED = 4;
    private static final int LONG = 5;
    private static final int TOLD = 6;
    private static final int KINDS = 7;
    /** The KIND above each KIND; below 0: none. */
    private static final int[] ABOVE = {-1, KNOT, KNOT, KNOT, LEFT, SLOW, KNOT};

    private static final int EAST = 0;
    private static final int SOUTH = 1;
    private static final int AXES = 2;

    private static final int MOST_BYTES = 60;
    private static final int MOST_OPEN = 5;
    private static final int USES = 2;
    private static final int USE_BLOWS = 0;
    private static final String BLOWS_NAMES = "hwm";
    private static final String PRICE_NAMES = "kmn";

    private static final int FAR = 48;
    private static final int MIDDLE = 24;
    private static final int NEAR = 10;

    private static final int SHEETS = 4;
    private static final int MOST_NUMBERS = 24;
    private static final int MOST_WAITING = 24;
    private static final int COUNTS = 12;

    private final Sea now = new Sea();
    private final Sea kept = new Sea();
    private int images;
    private final Reader reader = new Reader();
    private final Foresight foresight = new Foresight();
    private final Search search = new Search();
    private final Speaker speaker = new Speaker();
    private final Sheet[] sheets = new Sheet[SHEETS];
    private final int[] errors = new int[ERRORS + 1];

    public KnottedWinds() {
        for (int i = 0; i < SHEETS; i++) {
            sheets[i] = new Sheet();
        }
    }

    // ---- the sea, ships, knots

    public int land(int cell, int v) {
        if (!within(cell, CELLS) || !within(v, 2)) {
            return error(BEYOND);
        }
        int was = now.lands[cell];
        now.lands[cell] = v;
        return was;
    }

    public int drift(int what, int v) {
        if (!within(what, AXES) || !between(v, -MOST_DRIFT, MOST_DRIFT)) {
            return error(BEYOND);
        }
        int was = now.drifts[what];
        now.drifts[what] = v;
        return was;
    }

    public int ship(int cell, int port) {
        if (!within(cell, CELLS) || !within(port, CELLS)) {
            return error(BEYOND);
        }
        if (now.ships >= MOST_SHIPS) {
            return error(FULL);
        }
        return now.launch(cell, port);
    }

    public int shipIs(int ship, int what) {
        if (!isShip(ship) || !within(what, SHIP_FACTS)) {
            return error(BEYOND);
        }
        return now.shipFact(ship, now.places[ship], what);
    }

    public int bring(int ship, int cell) {
        if (!isShip(ship) || !within(cell, CELLS)) {
            return error(BEYOND);
        }
        int was = cellOf(now.places[ship]);
        now.places[ship] = laid(cell, now.ports[ship]);
        return was;
    }

    public int tie(int ship, int knot, int km, int way) {
        if (!isKnot(ship, knot) || !within(km, 10 * KINDS) || !within(way, WAYS)) {
            return error(BEYOND);
        }
        int at = EACH * ship + knot;
        int was = 100 * now.ways[at] + 10 * now.kinds[at] + now.numbers[at];
        now.tieAnew(at, km, way);
        return was;
    }

    public int knotIs(int ship, int knot, int what) {
        if (!isKnot(ship, knot) || !within(what, KNOT_FACTS)) {
            return error(BEYOND);
        }
        return now.knotFact(EACH * ship + knot, what);
    }

    public int as(int ship, int knot, int kind) {
        if (!isKnot(ship, knot) || !within(kind, KINDS)) {
            return error(BEYOND);
        }
        int at = EACH * ship + knot;
        if (!isUnder(now.kinds[at], kind)) {
            return error(NOT_OF_KIND);
        }
        return now.numbers[at];
    }

    public int loose(int ship, int knot) {
        if (!isKnot(ship, knot)) {
            return error(BEYOND);
        }
        int at = EACH * ship + knot;
        if (!now.mayBeLoosed(at, now.hour, now.places[ship])) {
            return error(STATE);
        }
        now.loosed[at] = now.hour;
        return now.force(at, 0);
    }

    public int wind(int what) {
        if (!within(what, AXES)) {
            return error(BEYOND);
        }
        return now.windAt(what, now.hour);
    }

    // ---- texts

    public int feed(long word, int n) {
        if (!between(n, 1, 8)) {
            return error(BEYOND);
        }
        if (now.fed + n > MOST_BYTES) {
            return error(FULL);
        }
        for (int i = 0; i < n; i++) {
            now.tape[now.fed] = (int) ((word >>> (8 * i)) & 255L);
            now.fed++;
        }
        return now.fed;
    }

    public int text(int use) {
        if (!within(use, USES)) {
            return error(BEYOND);
        }
        int fault = reader.faultOf(now.tape, now.fed, use);
        now.fed = 0;
        if (fault >= 0) {
            return -10 - fault;
        }
        now.textOf(use).become(reader.found);
        return 1;
    }

    public int untell(int use) {
        if (!within(use, USES)) {
            return error(BEYOND);
        }
        Text text = now.textOf(use);
        int was = text.isThere() ? 1 : 0;
        text.clear();
        return was;
    }

    // ---- hours

    public int hours(int n) {
        if (!between(n, 1, FAR)) {
            return error(BEYOND);
        }
        if (now.hour + n > LAST_HOUR) {
            return error(STATE);
        }
        for (int i = 0; i < n; i++) {
            now.passHour();
        }
        return now.shipsThatAre(HOME);
    }

    public int draws(int n) {
        if (!between(n, 1, FAR)) {
            return error(BEYOND);
        }
        if (now.ships == 0 || now.hour + n > LAST_HOUR) {
            return error(STATE);
        }
        int loosed = 0;
        for (int i = 0; i < n; i++) {
            if (now.looseByDraw()) {
                loosed++;
            }
            now.passHour();
        }
        return loosed;
    }

    public int seed(int v) {
        int was = now.z;
        now.z = v;
        return was;
    }

    // ---- what would be

    public int then(int n, int ship, int what) {
        if (!between(n, 0, FAR) || !isShip(ship) || !within(what, SHIP_FACTS)) {
            return error(BEYOND);
        }
        int place = now.places[ship];
        for (int t = 0; t < n; t++) {
            place = now.placeBehindHour(ship, place, now.hour + t);
        }
        return now.shipFact(ship, place, what);
    }

    public int home(int ship, int n) {
        if (!isShip(ship) || !between(n, 0, FAR)) {
            return error(BEYOND);
        }
        int place = now.places[ship];
        for (int t = 0; t < n && stateOf(place) != HOME; t++) {
            place = now.placeBehindHour(ship, place, now.hour + t);
            if (stateOf(place) == HOME) {
                return t + 1;
            }
        }
        return stateOf(place) == HOME ? 0 : error(NONE);
    }

    public int soonest(int ship, int n, int what) {
        if (!isShip(ship) || !between(n, 1, NEAR) || !within(what, 3)) {
            return error(BEYOND);
        }
        search.find(now, ship, n);
        if (search.bestHours > n) {
            return error(NONE);
        }
        if (what == 0) {
            return search.bestHours;
        }
        return what == 1 ? search.bestFirst : search.bestLoosed;
    }

    public int bestKnot(int n, int what) {
        if (!between(n, 1, MIDDLE) || !within(what, 2)) {
            return error(BEYOND);
        }
        foresight.findBest(now, n);
        if (foresight.bestKnot < 0) {
            return error(NONE);
        }
        return what == 0 ? namedKnot(foresight.bestKnot) : foresight.bestHome;
    }

    public int who(int sheet, int n, int what) {
        if (!within(sheet, SHEETS) || !between(n, 1, MIDDLE) || !within(what, 3)) {
            return error(BEYOND);
        }
        Sheet told = sheets[sheet];
        if (images == 0 || !told.isThere() || told.length < kept.ships) {
            return error(NONE);
        }
        foresight.findWho(kept, told.numbers, n);
        if (what == 0) {
            return foresight.suspects;
        }
        if (what == 2) {
            return foresight.rows;
        }
        return foresight.suspects == 0 ? error(NONE) : namedKnot(foresight.firstSuspect);
    }

    public int race(int one, int other, int n) {
        if (!isShip(one) || !isShip(other) || one == other || !between(n, 1, NEAR)) {
            return error(BEYOND);
        }
        search.find(now, one, n);
        int first = search.bestHours;
        search.find(now, other, n);
        return search.bestHours - first;
    }

    // ---- voices, sheets, images, what is told

    public int voice(int ship, int knot, int voice, int x) {
        if (!isKnot(ship, knot) || !within(voice, Speaker.VOICES)) {
            return error(BEYOND);
        }
        int at = EACH * ship + knot;
        int answer = speaker.answer(now.kinds[at], now.numbers[at], at, voice, x);
        return speaker.parted ? error(PARTED) : answer;
    }

    public int body(int i) {
        if (!within(i, speaker.traced)) {
            return error(NONE);
        }
        return speaker.trace[i];
    }

    public int sheet(int sheet, int bits, int n) {
        if (!within(sheet, SHEETS) || bits != 0 && bits != 8 && bits != 16 && bits != 32) {
            return error(BEYOND);
        }
        if (bits != 0 && n < 0) {
            return error(STATE);
        }
        if (bits != 0 && n > MOST_NUMBERS) {
            return error(BEYOND);
        }
        sheets[sheet].begin(bits, bits == 0 ? 0 : n);
        return 1;
    }

    public int put(int sheet, int i, int v) {
        if (!within(sheet, SHEETS)) {
            return error(BEYOND);
        }
        Sheet written = sheets[sheet];
        if (!written.isThere()) {
            return error(NONE);
        }
        if (!within(i, written.length)) {
            return error(BEYOND);
        }
        written.write(i, v);
        return 1;
    }

    public int move(int sheet, int i, int other, int j, int n) {
        if (!within(sheet, SHEETS) || !within(other, SHEETS)) {
            return error(BEYOND);
        }
        Sheet from = sheets[sheet];
        Sheet to = sheets[other];
        if (!from.isThere() || !to.isThere()) {
            return error(NONE);
        }
        if (from.bits != to.bits) {
            return error(NOT_OF_KIND);
        }
        if (!from.holds(i, n) || !to.holds(j, n)) {
            return error(BEYOND);
        }
        System.arraycopy(from.numbers, i, to.numbers, j, n);
        return n;
    }

    public int lands(int sheet) {
        if (!within(sheet, SHEETS)) {
            return error(BEYOND);
        }
        Sheet told = sheets[sheet];
        if (!told.isThere()) {
            return error(NONE);
        }
        for (int i = 0; i < told.length; i++) {
            int cell = told.numbers[i];
            if (!within(cell, CELLS)) {
                return i;
            }
            now.lands[cell] = LAND;
        }
        return told.length;
    }

    public int judge(int sheet, int ship) {
        if (!within(sheet, SHEETS) || !isShip(ship)) {
            return error(BEYOND);
        }
        Sheet told = sheets[sheet];
        if (!told.isThere()) {
            return error(NONE);
        }
        int place = now.places[ship];
        for (int t = 0; t < told.length; t++) {
            if (told.numbers[t] != cellOf(place)) {
                return t;
            }
            place = now.placeBehindHour(ship, place, now.hour + t);
        }
        return told.length;
    }

    public int image() {
        kept.become(now);
        images++;
        return images;
    }

    public int restore() {
        if (images == 0) {
            return error(NONE);
        }
        now.become(kept);
        return now.hour;
    }

    public int tell(int v) {
        if (now.waits >= MOST_WAITING) {
            return error(FULL);
        }
        now.waiting[now.waits] = v;
        now.waits++;
        return now.waits;
    }

    public int check() {
        int waits = now.waits;
        now.waits = 0;
        for (int t = 0; t < waits; t++) {
            int hour = now.hour + t;
            if (now.waiting[t] != 100 * now.windAt(EAST, hour) + now.windAt(SOUTH, hour)) {
                return 1 + t;
            }
        }
        return 0;
    }

    public int count(int what) {
        if (!within(what, COUNTS)) {
            return error(BEYOND);
        }
        return what == 8 ? speaker.traced : now.tally(what);
    }

    public int told(int k) {
        if (!between(k, 1, ERRORS)) {
            return error(BEYOND);
        }
        return errors[k];
    }

    private int error(int k) {
        errors[k]++;
        return LOW - k;
    }

    private boolean isShip(int ship) {
        return within(ship, now.ships);
    }

    private boolean isKnot(int ship, int knot) {
        return isShip(ship) && within(knot, EACH);
    }

    private static boolean within(int v, int count) {
        return v >= 0 && v < count;
    }

    private static boolean between(int v, int least, int most) {
        return v >= least && v <= most;
    }

    /** A place is a CELL and what a SHIP is there in one number, so that a way is tried without a copy of all. */
    private static int cellOf(int place) {
        return place % CELLS;
    }

    private static int stateOf(int place) {
        return place / CELLS;
    }

    private static int laid(int cell, int port) {
        return CELLS * (cell == port ? HOME : SAILING) + cell;
    }

    private static int namedKnot(int at) {
        return 10 * (at / EACH) + at % EACH;
    }

    private static boolean isDay(int hour) {
        return between(hour % 24, 6, 17);
    }

    private static boolean isUnder(int kind, int above) {
        int k = kind;
        for (int i = 0; i < KINDS && within(k, KINDS); i++) {
            if (k == above) {
                return true;
            }
            k = ABOVE[k];
        }
        return false;
    }

    /** How often a FORCE to a WAY counts to the EAST, or to the SOUTH. */
    private static int share(int way, int what) {
        int plus = what == EAST ? 1 : 2;
        int minus = what == EAST ? 3 : 0;
        if (way == plus) {
            return 1;
        }
        return way == minus ? -1 : 0;
    }

    private static int held(int v, int least, int most) {
        return Math.max(least, Math.min(most, v));
    }

    /** All that an IMAGE keeps. */
    private static final class Sea {
        final int[] lands = new int[CELLS];
        final int[] drifts = new int[AXES];
        final int[] places = new int[MOST_SHIPS];
        final int[] ports = new int[MOST_SHIPS];
        final int[] kinds = new int[MOST_KNOTS];
        final int[] numbers = new int[MOST_KNOTS];
        final int[] ways = new int[MOST_KNOTS];
        /** The HOUR in which each KNOT was loosed, or TIED. */
        final int[] loosed = new int[MOST_KNOTS];
        final int[] tape = new int[MOST_BYTES];
        final int[] waiting = new int[MOST_WAITING];
        final Text blows = new Text();
        final Text price = new Text();
        int ships;
        int hour;
        int fed;
        int waits;
        int z = 1;

        void become(Sea other) {
            System.arraycopy(other.lands, 0, lands, 0, CELLS);
            System.arraycopy(other.drifts, 0, drifts, 0, AXES);
            System.arraycopy(other.places, 0, places, 0, MOST_SHIPS);
            System.arraycopy(other.ports, 0, ports, 0, MOST_SHIPS);
            System.arraycopy(other.kinds, 0, kinds, 0, MOST_KNOTS);
            System.arraycopy(other.numbers, 0, numbers, 0, MOST_KNOTS);
            System.arraycopy(other.ways, 0, ways, 0, MOST_KNOTS);
            System.arraycopy(other.loosed, 0, loosed, 0, MOST_KNOTS);
            System.arraycopy(other.tape, 0, tape, 0, MOST_BYTES);
            System.arraycopy(other.waiting, 0, waiting, 0, MOST_WAITING);
            blows.become(other.blows);
            price.become(other.price);
            ships = other.ships;
            hour = other.hour;
            fed = other.fed;
            waits = other.waits;
            z = other.z;
        }

        int launch(int cell, int port) {
            int ship = ships;
            places[ship] = laid(cell, port);
            ports[ship] = port;
            for (int knot = 0; knot < EACH; knot++) {
                tieAnew(EACH * ship + knot, 0, 0);
            }
            ships++;
            return ship;
        }

        void tieAnew(int at, int km, int way) {
            kinds[at] = km / 10;
            numbers[at] = km % 10;
            ways[at] = way;
            loosed[at] = TIED;
        }

        Text textOf(int use) {
            return use == USE_BLOWS ? blows : price;
        }

        int shipFact(int ship, int place, int what) {
            switch (what) {
                case 0:
                    return cellOf(place);
                case 1:
                    return ports[ship];
                case 2:
                    return stateOf(place);
                case 3:
                    return tiedOf(ship);
                default:
                    return worth(ship);
            }
        }

        int knotFact(int at, int what) {
            boolean tied = loosed[at] == TIED;
            switch (what) {
                case 0:
                    return kinds[at];
                case 1:
                    return numbers[at];
                case 2:
                    return ways[at];
                case 3:
                    return loosed[at];
                case 4:
                    return tied ? 0 : force(at, hour - loosed[at]);
                default:
                    return tied ? priceOf(at) : 0;
            }
        }

        int tally(int what) {
            switch (what) {
                case 0:
                    return ships;
                case 1:
                    return hour;
                case 2:
                    return isDay(hour) ? 1 : 0;
                case 3:
                    return shipsThatAre(HOME);
                case 4:
                    return shipsThatAre(WRECKED);
                case 5:
                    return tiedOfAll();
                case 6:
                    return fed;
                case 7:
                    return waits;
                case 9:
                    return z;
                case 10:
                    return drifts[EAST];
                default:
                    return drifts[SOUTH];
            }
        }

        int tiedOf(int ship) {
            int tied = 0;
            for (int knot = 0; knot < EACH; knot++) {
                if (loosed[EACH * ship + knot] == TIED) {
                    tied++;
                }
            }
            return tied;
        }

        int tiedOfAll() {
            int tied = 0;
            for (int ship = 0; ship < ships; ship++) {
                tied += tiedOf(ship);
            }
            return tied;
        }

        int shipsThatAre(int state) {
            int found = 0;
            for (int ship = 0; ship < ships; ship++) {
                if (stateOf(places[ship]) == state) {
                    found++;
                }
            }
            return found;
        }

        int priceOf(int at) {
            int m = numbers[at];
            int tied = tiedOf(at / EACH);
            int asked = price.isThere() ? price.value(kinds[at], m, tied) : m * tied;
            return held(asked, 0, 999);
        }

        int worth(int ship) {
            int sum = 0;
            for (int knot = 0; knot < EACH; knot++) {
                int at = EACH * ship + knot;
                if (loosed[at] == TIED) {
                    sum += priceOf(at);
                }
            }
            return sum;
        }

        /** The FORCE of a KNOT h HOURS behind that in which it was, or would be, loosed. */
        int force(int at, int h) {
            int m = numbers[at];
            int plain = h < 3 ? m : 0;
            switch (kinds[at]) {
                case LEFT:
                    return -plain;
                case SLOW:
                    return slowForce(m, h);
                case EMPTY:
                    return 0;
                case JOINED:
                    return h == 0 ? -2 * plain : -plain;
                case LONG:
                    return slowForce(m, h / 2);
                case TOLD:
                    return blows.isThere() ? held(blows.value(h, ways[at], m), -20, 20) : plain;
                default:
                    return plain;
            }
        }

        private static int slowForce(int m, int h) {
            return h < 6 ? m / 2 : 0;
        }

        /** THE WIND of an HOUR (now or later) of the KNOTS that are loosed now. */
        int windAt(int what, int when) {
            int sum = drifts[what];
            for (int at = 0; at < EACH * ships; at++) {
                int share = share(ways[at], what);
                if (loosed[at] != TIED && share != 0) {
                    sum += share * force(at, when - loosed[at]);
                }
            }
            return sum;
        }

        boolean mayBeLoosed(int at, int when, int place) {
            return loosed[at] == TIED && isDay(when) && stateOf(place) != WRECKED;
        }

        int placeBehindHour(int ship, int place, int when) {
            if (stateOf(place) != SAILING) {
                return place;
            }
            return sailed(ship, place, windAt(EAST, when), windAt(SOUTH, when));
        }

        int sailed(int ship, int place, int east, int south) {
            int turned = along(ship, place, EAST, east / 3);
            return along(ship, turned, SOUTH, south / 3);
        }

        private int along(int ship, int place, int what, int far) {
            int step = far < 0 ? -1 : 1;
            int there = place;
            for (int left = far * step; left > 0 && stateOf(there) == SAILING; left--) {
                int row = cellOf(there) / SIDE + (what == SOUTH ? step : 0);
                int column = cellOf(there) % SIDE + (what == EAST ? step : 0);
                if (!within(row, SIDE) || !within(column, SIDE)) {
                    return there;
                }
                there = entered(ship, SIDE * row + column);
            }
            return there;
        }

        private int entered(int ship, int cell) {
            if (cell == ports[ship]) {
                return CELLS * HOME + cell;
            }
            return lands[cell] == LAND ? CELLS * WRECKED + cell : CELLS * SAILING + cell;
        }

        void passHour() {
            int east = windAt(EAST, hour);
            int south = windAt(SOUTH, hour);
            for (int ship = 0; ship < ships; ship++) {
                places[ship] = sailed(ship, places[ship], east, south);
            }
            hour++;
        }

        /** Whether the draws ahead of this HOUR loosed a KNOT. */
        boolean looseByDraw() {
            if (ships == 0) {
                return false;
            }
            int ship = drawn() % ships;
            if (!isDay(hour)) {
                return false;
            }
            int knot = drawn() % 4;
            int at = EACH * ship + knot;
            if (knot == NO_KNOT || !mayBeLoosed(at, hour, places[ship])) {
                return false;
            }
            loosed[at] = hour;
            return true;
        }

        private int drawn() {
            z = z * 1103515245 + 12345;
            return z >>> 8;
        }
    }

    /** A TEXT in postfix order: numbers as they are, NAMES from FIRST_NAME on, operators as their bytes below 0. */
    private static final class Text {
        static final int FIRST_NAME = 10000;

        private final int[] code = new int[MOST_BYTES];
        private final int[] stack = new int[MOST_BYTES];
        private int length;

        boolean isThere() {
            return length > 0;
        }

        void clear() {
            length = 0;
        }

        void become(Text other) {
            System.arraycopy(other.code, 0, code, 0, MOST_BYTES);
            length = other.length;
        }

        void add(int item) {
            if (length < MOST_BYTES) {
                code[length] = item;
                length++;
            }
        }

        int value(int first, int second, int third) {
            int height = 0;
            for (int i = 0; i < length; i++) {
                int item = code[i];
                if (item == -'!' && height > 0) {
                    stack[height - 1] = stack[height - 1] == 0 ? 1 : 0;
                } else if (item >= 0 && height < MOST_BYTES) {
                    stack[height] = operand(item, first, second, third);
                    height++;
                } else if (height > 1) {
                    height--;
                    stack[height - 1] = joined(-item, stack[height - 1], stack[height]);
                }
            }
            return height > 0 ? stack[0] : 0;
        }

        private static int operand(int item, int first, int second, int third) {
            switch (item - FIRST_NAME) {
                case 0:
                    return first;
                case 1:
                    return second;
                case 2:
                    return third;
                default:
                    return item;
            }
        }

        private static int joined(int operator, int a, int b) {
            switch (operator) {
                case '|':
                    return a != 0 || b != 0 ? 1 : 0;
                case '&':
                    return a != 0 && b != 0 ? 1 : 0;
                case '<':
                    return a < b ? 1 : 0;
                case '=':
                    return a == b ? 1 : 0;
                case '>':
                    return a > b ? 1 : 0;
                case '+':
                    return a + b;
                case '-':
                    return a - b;
                case '*':
                    return a * b;
                case '/':
                    return b == 0 ? 0 : a / b;
                default:
                    return b == 0 ? 0 : a % b;
            }
        }
    }

    /** Reads THE TAPE as a TEXT, byte by byte: it stops at the first byte with which no TEXT goes on. */
    private static final class Reader {
        private static final int COMPARING = 2;
        private static final int OPERANDS = 5;
        private static final int MOST_DIGITS = 4;
        private static final int END = -1;

        final Text found = new Text();
        private final int[] bytes = new int[MOST_BYTES];
        private int length;
        private int at;
        private boolean stuck;
        private String names = BLOWS_NAMES;

        /** The FAULT; below 0: there is none, and found is the TEXT. */
        int faultOf(int[] tape, int fed, int use) {
            length = Math.min(fed, MOST_BYTES);
            System.arraycopy(tape, 0, bytes, 0, length);
            at = 0;
            stuck = false;
            names = use == USE_BLOWS ? BLOWS_NAMES : PRICE_NAMES;
            found.clear();
            readLevel(0, 0);
            return (stuck || at < length) ? at : -1;
        }

        private int next() {
            return at < length ? bytes[at] : END;
        }

        /** Levels are those of the operators, the loosest first; behind the last one come the operands. */
        private void readLevel(int level, int open) {
            if (level >= OPERANDS) {
                readOperand(open);
                return;
            }
            readLevel(level + 1, open);
            int most = level == COMPARING ? 1 : MOST_BYTES;
            for (int i = 0; i < most && !stuck && levelOf(next()) == level; i++) {
                int operator = next();
                at++;
                readLevel(level + 1, open);
                found.add(-operator);
            }
        }

        private static int levelOf(int operator) {
            switch (operator) {
                case '|':
                    return 0;
                case '&':
                    return 1;
                case '<':
                case '=':
                case '>':
                    return COMPARING;
                case '+':
                case '-':
                    return 3;
                case '*':
                case '/':
                case '%':
                    return 4;
                default:
                    return OPERANDS;
            }
        }

        private void readOperand(int open) {
            int c = next();
            if (isDigit(c)) {
                readNumber();
            } else if ((c == '!' || c == '(') && open < MOST_OPEN) {
                at++;
                readOpened(c, open + 1);
            } else {
                readName(c);
            }
        }

        private void readOpened(int opener, int open) {
            if (opener == '!') {
                readOperand(open);
                found.add(-'!');
                return;
            }
            readLevel(0, open);
            if (stuck || next() != ')') {
                stuck = true;
                return;
            }
            at++;
        }

        private static boolean isDigit(int c) {
            return c >= '0' && c <= '9';
        }

        private void readNumber() {
            int number = 0;
            for (int digits = 0; digits < MOST_DIGITS && isDigit(next()); digits++) {
                number = 10 * number + next() - '0';
                at++;
            }
            found.add(number);
        }

        private void readName(int c) {
            int name = c == END ? -1 : names.indexOf((char) c);
            if (name < 0) {
                stuck = true;
                return;
            }
            found.add(Text.FIRST_NAME + name);
            at++;
        }
    }

    /** What would be if one KNOT more were loosed: BEST KNOT, and WHO. */
    private static final class Foresight {
        private final int[] easts = new int[MIDDLE];
        private final int[] souths = new int[MIDDLE];
        /** The FORCES of the KNOT that is tried, by HOURS behind its loosing. */
        private final int[] forces = new int[MIDDLE];
        /** The places of the SHIPS behind 0, 1, .. HOURS, nothing more being loosed. */
        private final int[][] courses = new int[MIDDLE + 1][MOST_SHIPS];
        /** The places of the SHIPS behind all HOURS, the KNOT that is tried being loosed. */
        private final int[] ends = new int[MOST_SHIPS];
        private int hours;

        int bestKnot;
        int bestHome;
        int suspects;
        int firstSuspect;
        int rows;

        void findBest(Sea sea, int n) {
            lookFrom(sea, n);
            bestKnot = -1;
            bestHome = homeIn(courses[hours], sea.ships);
            for (int at = 0; at < EACH * sea.ships; at++) {
                if (sea.mayBeLoosed(at, sea.hour, sea.places[at / EACH])) {
                    weigh(sea, at);
                }
            }
        }

        private void weigh(Sea sea, int at) {
            foresee(sea, at);
            sailOn(sea, at, 0);
            int home = homeIn(ends, sea.ships);
            if (home > bestHome) {
                bestHome = home;
                bestKnot = at;
            }
        }

        /** The cells have one number at least for each SHIP. */
        void findWho(Sea sea, int[] cells, int n) {
            lookFrom(sea, n);
            suspects = 0;
            firstSuspect = -1;
            rows = lieAsTold(courses[hours], cells, sea.ships) ? 1 : 0;
            for (int at = 0; at < EACH * sea.ships; at++) {
                int found = sea.loosed[at] == TIED ? rowsOf(sea, at, cells) : 0;
                if (found > 0) {
                    firstSuspect = suspects == 0 ? at : firstSuspect;
                    suspects++;
                }
                rows += found;
            }
        }

        private int rowsOf(Sea sea, int at, int[] cells) {
            foresee(sea, at);
            int found = 0;
            for (int t = 0; t < hours; t++) {
                if (sea.mayBeLoosed(at, sea.hour + t, courses[t][at / EACH])) {
                    sailOn(sea, at, t);
                    found += lieAsTold(ends, cells, sea.ships) ? 1 : 0;
                }
            }
            return found;
        }

        private void lookFrom(Sea sea, int n) {
            hours = held(n, 0, MIDDLE);
            for (int ship = 0; ship < sea.ships; ship++) {
                courses[0][ship] = sea.places[ship];
            }
            for (int t = 0; t < hours; t++) {
                easts[t] = sea.windAt(EAST, sea.hour + t);
                souths[t] = sea.windAt(SOUTH, sea.hour + t);
                for (int ship = 0; ship < sea.ships; ship++) {
                    courses[t + 1][ship] = sea.sailed(ship, courses[t][ship], easts[t], souths[t]);
                }
            }
        }

        private void foresee(Sea sea, int at) {
            for (int h = 0; h < hours; h++) {
                forces[h] = sea.force(at, h);
            }
        }

        /** To the ends, the KNOT being loosed ahead of HOUR first. */
        private void sailOn(Sea sea, int at, int first) {
            int east = share(sea.ways[at], EAST);
            int south = share(sea.ways[at], SOUTH);
            for (int ship = 0; ship < sea.ships; ship++) {
                int place = courses[first][ship];
                for (int t = first; t < hours && stateOf(place) == SAILING; t++) {
                    int force = forces[t - first];
                    place = sea.sailed(ship, place, easts[t] + east * force, souths[t] + south * force);
                }
                ends[ship] = place;
            }
        }

        private static int homeIn(int[] places, int ships) {
            int home = 0;
            for (int ship = 0; ship < ships; ship++) {
                if (stateOf(places[ship]) == HOME) {
                    home++;
                }
            }
            return home;
        }

        private static boolean lieAsTold(int[] places, int[] cells, int ships) {
            for (int ship = 0; ship < ships; ship++) {
                if (cellOf(places[ship]) != cells[ship]) {
                    return false;
                }
            }
            return true;
        }
    }

    /** SOONEST: all rows of loosings of one SHIP, the least row first. */
    private static final class Search {
        private final int[] easts = new int[NEAR];
        private final int[] souths = new int[NEAR];
        private final int[] forces = new int[EACH * NEAR];
        /** Ahead of which HOUR each KNOT is loosed in the row that is tried, or TIED. */
        private final int[] since = new int[EACH];
        private int ship;
        private int limit;
        private int first;

        /** Above the limit: the SHIP isn't HOME by it. */
        int bestHours;
        int bestLoosed;
        int bestFirst;

        void find(Sea sea, int sought, int n) {
            ship = sought;
            limit = held(n, 0, NEAR);
            for (int t = 0; t < limit; t++) {
                easts[t] = sea.windAt(EAST, sea.hour + t);
                souths[t] = sea.windAt(SOUTH, sea.hour + t);
            }
            for (int knot = 0; knot < EACH; knot++) {
                since[knot] = TIED;
                for (int h = 0; h < limit; h++) {
                    forces[NEAR * knot + h] = sea.force(EACH * sought + knot, h);
                }
            }
            first = NO_KNOT;
            bestHours = n + 1;
            bestLoosed = 0;
            bestFirst = NO_KNOT;
            goOn(sea, 0, sea.places[sought], 0);
        }

        private void goOn(Sea sea, int t, int place, int loosed) {
            if (stateOf(place) == HOME) {
                keep(t, loosed);
                return;
            }
            if (stateOf(place) == WRECKED || t >= limit || t >= bestHours) {
                return;
            }
            for (int knot = 0; knot < EACH; knot++) {
                int at = EACH * ship + knot;
                if (since[knot] == TIED && sea.mayBeLoosed(at, sea.hour + t, place)) {
                    since[knot] = t;
                    first = t == 0 ? knot : first;
                    goOn(sea, t + 1, behind(sea, t, place), loosed + 1);
                    since[knot] = TIED;
                }
            }
            first = t == 0 ? NO_KNOT : first;
            goOn(sea, t + 1, behind(sea, t, place), loosed);
        }

        private void keep(int t, int loosed) {
            if (t < bestHours || t == bestHours && loosed < bestLoosed) {
                bestHours = t;
                bestLoosed = loosed;
                bestFirst = first;
            }
        }

        private int behind(Sea sea, int t, int place) {
            int east = easts[t];
            int south = souths[t];
            for (int knot = 0; knot < EACH; knot++) {
                if (since[knot] != TIED) {
                    int force = forces[NEAR * knot + t - since[knot]];
                    int way = sea.ways[EACH * ship + knot];
                    east += share(way, EAST) * force;
                    south += share(way, SOUTH) * force;
                }
            }
            return sea.sailed(ship, place, east, south);
        }
    }

    /** VOICES of one KNOT at a time, and THE TRACE. */
    private static final class Speaker {
        static final int VOICES = 4;
        private static final int BLOWS = 0;
        private static final int TURNS = 1;
        private static final int TIES = 2;
        private static final int PARTS = 3;
        private static final int MOST_TRACED = 30;
        private static final int DEEPEST = 40;
        /** The BODY of each VOICE of each KIND; 0: it has none. */
        private static final int[] BODIES = {
            10, 11, 12, 13,
            20, 0, 0, 21,
            0, 30, 0, 0,
            0, 0, 40, 0,
            50, 0, 51, 0,
            0, 60, 0, 0,
            70, 71, 0, 0,
        };

        final int[] trace = new int[MOST_TRACED];
        int traced;
        boolean parted;
        private int kind;
        private int m;
        private int k;

        /** THE TRACE holds the BODIES that began ahead of a parting, too; none begins behind it. */
        int answer(int ofKind, int number, int at, int voice, int x) {
            kind = ofKind;
            m = number;
            k = at;
            parted = false;
            traced = 0;
            return speak(voice, kind, x, 0);
        }

        /** The BODY of the KIND, or of the next one above that has one. */
        private static int bodyFrom(int voice, int from) {
            int of = from;
            for (int i = 0; i < KINDS && within(of, KINDS); i++) {
                int body = BODIES[VOICES * of + voice];
                if (body != 0) {
                    return body;
                }
                of = ABOVE[of];
            }
            return 0;
        }

        private void begin(int body) {
            if (traced < MOST_TRACED) {
                trace[traced] = body;
                traced++;
            }
        }

        private int speak(int voice, int from, int x, int depth) {
            if (depth > DEEPEST || parted) {
                return 0;
            }
            int body = bodyFrom(voice, from);
            int deeper = depth + 1;
            begin(body);
            switch (body) {
                case 10:
                    return x + k;
                case 11:
                    return speak(BLOWS, kind, x, deeper) * 2;
                case 12:
                    return speak(TURNS, kind, x, deeper) - m;
                case 13:
                    return partedBy(x, m - k);
                case 20:
                    return speak(BLOWS, ABOVE[LEFT], x, deeper) - 9;
                case 21:
                    return speak(PARTS, ABOVE[LEFT], x, deeper) + speak(TURNS, kind, 1, deeper);
                case 30:
                    return 0 - speak(TURNS, ABOVE[SLOW], x, deeper);
                case 40:
                    return speak(TIES, ABOVE[EMPTY], x / 2, deeper);
                case 50:
                    return speak(BLOWS, ABOVE[JOINED], x, deeper) * 3;
                case 51:
                    return speak(TIES, ABOVE[JOINED], x, deeper) ^ k;
                case 60:
                    return speak(TURNS, ABOVE[LONG], x + 1, deeper);
                case 70:
                    return 6;
                case 71:
                    return speak(TURNS, ABOVE[TOLD], x, deeper) + m;
                default:
                    return 0;
            }
        }

        private int partedBy(int x, int divisor) {
            if (divisor == 0) {
                parted = true;
                return 0;
            }
            return x / divisor;
        }
    }

    /** A row of numbers of so many bits; of none: it is missing. */
    private static final class Sheet {
        final int[] numbers = new int[MOST_NUMBERS];
        int bits;
        int length;

        boolean isThere() {
            return bits != 0;
        }

        void begin(int ofBits, int n) {
            bits = ofBits;
            length = held(n, 0, MOST_NUMBERS);
            for (int i = 0; i < MOST_NUMBERS; i++) {
                numbers[i] = 0;
            }
        }

        void write(int i, int v) {
            if (within(i, length)) {
                numbers[i] = bits == 32 ? v : v & ((1 << bits) - 1);
            }
        }

        boolean holds(int from, int n) {
            return n >= 0 && n <= length && from >= 0 && from <= length - n;
        }
    }
}
