import java.util.ArrayList;
import java.util.LinkedHashMap;
import java.util.List;
import java.util.Map;
import java.util.Set;
import java.util.TreeSet;

/** What the edge tests share: each case has its promise's number, a name of its own, and objects of its own. */
class Edges {
    static final int LOW = -1000000000;
    static final int BEYOND = LOW - 1;
    static final int NONE = LOW - 2;
    static final int STATE = LOW - 3;
    static final int FULL = LOW - 4;
    static final int KIND = LOW - 5;
    static final int PARTED = LOW - 6;
    static final int LEAST = Integer.MIN_VALUE;
    static final int MOST = Integer.MAX_VALUE;
    static final int NORTH = 0;
    static final int EAST = 1;
    static final int SOUTH = 2;
    static final int WEST = 3;

    /** Calls on an object. */
    interface Run {
        void on(KnottedWinds x);
    }

    /** One call, the one that is asked about. */
    interface Call {
        int on(KnottedWinds x);
    }

    /** One call with one number that is asked about. */
    interface CallOf {
        int on(KnottedWinds x, int v);
    }

    /** Calls that read some of an object; they may change it, so each has an object of its own. */
    private interface Probe {
        List<Integer> of(KnottedWinds x);
    }

    private static final Map<String, Probe> PROBES = probes();
    private static final Set<String> NAMES = new TreeSet<>();
    private static int promise;
    private static String name = "";
    private static int asked;
    private static int wrong;

    // ---- cases

    static void promise(int number) {
        promise = number;
    }

    private static void begin(String of) {
        name = "promise " + promise + ": " + of;
        if (!NAMES.add(name)) {
            fail("there are two of this name");
        }
    }

    private static void fail(String what) {
        wrong++;
        System.out.println(name + ": " + what);
    }

    static void due(String call, long got, long want) {
        asked++;
        if (got != want) {
            fail(call + " answered " + got + ", due is " + want);
        }
    }

    static void due(long got, long want) {
        due("the call", got, want);
    }

    /** A case on a new object. */
    static void edge(String of, Run run) {
        begin(of);
        run.on(new KnottedWinds());
    }

    /** A call that is refused, of an object that has some of everything. */
    static void refused(String of, int error, Call call) {
        refused(of, error, Edges::some, call);
    }

    /** A call that is refused: told() tells one more of that ERROR alone, and nothing else is changed. */
    static void refused(String of, int error, Run ahead, Call call) {
        begin(of);
        KnottedWinds x = after(ahead);
        int[] told = toldBy(x);
        due("the call", call.on(x), error);
        told[LOW - error]++;
        toldAre(x, told);
        due("the call, again", call.on(x), error);
        told[LOW - error]++;
        toldAre(x, told);
        unchanged(ahead, call);
    }

    /** All but least .. most is BEYOND: the first on each side, below 0, and the farthest that there are. */
    static void beyond(String of, int least, int most, CallOf call) {
        beyond(of, least, most, Edges::some, call);
    }

    static void beyond(String of, int least, int most, Run ahead, CallOf call) {
        for (int v : new TreeSet<>(List.of(least - 1, Math.min(least - 1, -1), most + 1, LEAST, MOST))) {
            refused(of + " " + v, BEYOND, ahead, x -> call.on(x, v));
        }
    }

    /** Of three SHIPS there are 0, 1, 2; of none there is not one. */
    static void beyondShips(CallOf call) {
        beyond("SHIP of three:", 0, 2, call);
        beyond("SHIP of none:", 0, -1, Edges::nothing, call);
    }

    /** A call that answers this, and changes nothing at all. */
    static void onlyAsks(String of, int answer, Run ahead, Call call) {
        begin(of);
        KnottedWinds x = after(ahead);
        int[] told = toldBy(x);
        due("the call", call.on(x), answer);
        due("the call, again", call.on(x), answer);
        toldAre(x, told);
        unchanged(ahead, call);
    }

    static void end() {
        System.out.println(NAMES.size() + " cases, " + asked + " answers were asked, " + wrong + " are not as due");
        if (wrong != 0) {
            System.exit(1);
        }
    }

    private static KnottedWinds after(Run ahead) {
        KnottedWinds x = new KnottedWinds();
        ahead.on(x);
        return x;
    }

    private static int[] toldBy(KnottedWinds x) {
        int[] told = new int[7];
        for (int k = 1; k <= 6; k++) {
            told[k] = x.told(k);
        }
        return told;
    }

    private static void toldAre(KnottedWinds x, int[] told) {
        for (int k = 1; k <= 6; k++) {
            due("told(" + k + ") then", x.told(k), told[k]);
        }
    }

    /** Of two that were made alike one is asked, the other isn't: then they answer alike, whatever is read of them. */
    private static void unchanged(Run ahead, Call call) {
        for (String what : PROBES.keySet()) {
            KnottedWinds x = after(ahead);
            call.on(x);
            List<Integer> got = PROBES.get(what).of(x);
            List<Integer> want = PROBES.get(what).of(after(ahead));
            asked++;
            if (!got.equals(want)) {
                fail("it changed something: " + what + unlike(got, want));
            }
        }
    }

    private static String unlike(List<Integer> got, List<Integer> want) {
        for (int i = 0; i < Math.min(got.size(), want.size()); i++) {
            if (!got.get(i).equals(want.get(i))) {
                return ", answer " + i + " is " + got.get(i) + ", due is " + want.get(i);
            }
        }
        return ": " + got.size() + " answers, due are " + want.size();
    }

    // ---- what is read of an object

    private static Map<String, Probe> probes() {
        Map<String, Probe> probes = new LinkedHashMap<>();
        probes.put("what it tells", x -> facts(x));
        probes.put("LAND", x -> lands(x));
        for (int sheet = 0; sheet < 4; sheet++) {
            int s = sheet;
            String of = " of SHEET " + s;
            probes.put("CELLS" + of, x -> begun(x.lands(s), lands(x)));
            probes.put("number 0" + of, x -> begun(x.put(s, 1, 64), begun(x.lands(s), lands(x))));
            probes.put("bits" + of, x -> begun(x.put(s, 0, 256), List.of(x.lands(s), x.put(s, 0, 65536), x.lands(s))));
            probes.put("length" + of, x -> length(x, s));
        }
        probes.put("THE TAPE as PRICE", x -> begun(x.text(1), facts(x)));
        probes.put("TEXTS", x -> begun(x.untell(0), List.of(x.untell(1))));
        probes.put("an HOUR on", x -> begun(x.hours(1), facts(x)));
        probes.put("DRAWS", x -> begun(x.draws(24), facts(x)));
        probes.put("numbers that wait", x -> begun(x.check(), List.of(x.check())));
        probes.put("how many IMAGES", x -> List.of(x.image()));
        probes.put("the IMAGE", x -> begun(x.restore(), facts(x)));
        probes.put("the IMAGE's LAND", x -> begun(x.restore(), lands(x)));
        return probes;
    }

    private static List<Integer> begun(int first, List<Integer> then) {
        List<Integer> all = new ArrayList<>();
        all.add(first);
        all.addAll(then);
        return all;
    }

    private static List<Integer> facts(KnottedWinds x) {
        List<Integer> all = new ArrayList<>();
        for (int what = 0; what < 12; what++) {
            all.add(x.count(what));
        }
        for (int ship = 0; ship < x.count(0); ship++) {
            for (int what = 0; what < 5; what++) {
                all.add(x.shipIs(ship, what));
            }
            for (int i = 0; i < 18; i++) {
                all.add(x.knotIs(ship, i / 6, i % 6));
            }
        }
        for (int i = 0; i < 7; i++) {
            all.add(x.body(i));
        }
        all.add(x.wind(0));
        all.add(x.wind(1));
        return all;
    }

    private static List<Integer> lands(KnottedWinds x) {
        List<Integer> all = new ArrayList<>();
        for (int cell = 0; cell < 64; cell++) {
            all.add(x.land(cell, 0));
        }
        return all;
    }

    private static List<Integer> length(KnottedWinds x, int sheet) {
        List<Integer> all = new ArrayList<>();
        for (int i = 0; i < 25; i++) {
            all.add(x.put(sheet, i, 0));
        }
        return all;
    }

    // ---- calls that many cases begin with

    /** Some of everything, at 8 o'clock: SHIPS 0 SAILING, 1 WRECKED, 2 HOME; KNOTS, TEXTS, SHEETS 0, 1, 2, an IMAGE. */
    static void some(KnottedWinds x) {
        x.ship(0, 63);
        x.ship(26, 31);
        x.ship(9, 9);
        x.tie(0, 0, 63, EAST);
        x.tie(0, 1, 59, NORTH);
        x.tie(1, 2, 17, WEST);
        x.tie(2, 0, 25, SOUTH);
        x.land(27, 1);
        x.land(40, 1);
        x.drift(0, 1);
        x.drift(1, -2);
        text(x, 0, "m+1-h");
        text(x, 1, "k+m*n");
        x.hours(7);
        x.loose(0, 0);
        x.sheet(0, 8, 4);
        x.sheet(1, 16, 3);
        x.sheet(2, 8, 2);
        x.put(0, 0, 11);
        x.put(0, 1, 12);
        x.put(0, 2, 13);
        x.put(0, 3, 255);
        x.put(1, 0, 21);
        x.put(1, 2, 23);
        x.tell(101);
        x.seed(77);
        feed(x, "m");
        x.image();
        x.hours(1);
        x.loose(2, 0);
        x.land(50, 1);
        x.drift(1, 3);
        x.tell(-5);
        feed(x, "*9");
        x.seed(78);
        x.voice(0, 1, 2, 5);
    }

    static void nothing(KnottedWinds x) {
        x.count(0);
    }

    /** All of these, in this order. */
    static Run both(Run first, Run then) {
        return x -> {
            first.on(x);
            then.on(x);
        };
    }

    static void feed(KnottedWinds x, String s) {
        for (int i = 0; i < s.length(); i += 8) {
            int n = Math.min(8, s.length() - i);
            long word = 0;
            for (int j = n - 1; j >= 0; j--) {
                word = word << 8 | s.charAt(i + j);
            }
            x.feed(word, n);
        }
    }

    static int text(KnottedWinds x, int use, String s) {
        feed(x, s);
        return x.text(use);
    }

    /** Hours go by till it is this HOUR. */
    static void till(KnottedWinds x, int hour) {
        int now = x.count(1);
        while (now < hour) {
            int n = Math.min(48, hour - now);
            x.hours(n);
            now += n;
        }
    }

    /** A SHIP that has far to go, at 6 o'clock. */
    static void lone(KnottedWinds x) {
        x.ship(0, 63);
        x.hours(6);
    }

    static int kindOf(int ship, int knot) {
        return 1 + (3 * ship + knot) % 6;
    }

    static int mOf(int ship, int knot) {
        return (9 - ship + 3 * knot) % 10;
    }

    static int wayOf(int ship, int knot) {
        return (ship + knot) % 4;
    }

    /** Five SHIPS in CELLS 1, 9, 17, .., with PORTS 40, 41, ..; KNOTS of one SHIP and of one place are unlike. */
    static void five(KnottedWinds x) {
        for (int ship = 0; ship < 5; ship++) {
            x.ship(8 * ship + 1, 40 + ship);
            for (int knot = 0; knot < 3; knot++) {
                x.tie(ship, knot, 10 * kindOf(ship, knot) + mOf(ship, knot), wayOf(ship, knot));
            }
        }
    }

    /** As many SHIPS, in CELLS 0, 8, 16, .., all with PORT 63. */
    static void fleet(KnottedWinds x, int ships) {
        for (int ship = 0; ship < ships; ship++) {
            x.ship(8 * ship, 63);
        }
    }
}
