import java.util.ArrayList;
import java.util.Arrays;
import java.util.List;

/**
 * Long runs of calls, the class beside a second, slower reading of the document: all state is copied, hours are really
 * gone, rows of loosings are all written out, TEXTS are cut at their loosest operator. Same numbers in every run.
 */
public final class ModelTest {
    private static final int LOW = -1000000000;
    private static final int BEYOND = 1, NONE = 2, STATE = 3, FULL = 4, KIND = 5, PARTED = 6;

    // ---- the second reading

    static final class Knot implements Cloneable {
        int kind, m, way, since = -1;

        Knot copy() {
            Knot k = new Knot();
            k.kind = kind;
            k.m = m;
            k.way = way;
            k.since = since;
            return k;
        }
    }

    static final class Ship {
        int row, column, port, state;
        Knot[] knots = {new Knot(), new Knot(), new Knot()};

        Ship copy() {
            Ship s = new Ship();
            s.row = row;
            s.column = column;
            s.port = port;
            s.state = state;
            for (int i = 0; i < 3; i++) {
                s.knots[i] = knots[i].copy();
            }
            return s;
        }

        int cell() {
            return 8 * row + column;
        }

        long tied() {
            return Arrays.stream(knots).filter(k -> k.since < 0).count();
        }
    }

    static final class World {
        boolean[] land = new boolean[64];
        int hour, east, south, z = 1;
        List<Ship> ships = new ArrayList<>();
        String tape = "";
        String[] texts = new String[2];
        List<Integer> waiting = new ArrayList<>();

        World copy() {
            World w = new World();
            w.land = land.clone();
            w.hour = hour;
            w.east = east;
            w.south = south;
            w.z = z;
            for (Ship s : ships) {
                w.ships.add(s.copy());
            }
            w.tape = tape;
            w.texts = texts.clone();
            w.waiting = new ArrayList<>(waiting);
            return w;
        }

        boolean day() {
            return hour % 24 > 5 && hour % 24 < 18;
        }

        int force(Knot k) {
            int h = hour - k.since;
            switch (k.kind) {
                case 1: return h <= 2 ? 0 - k.m : 0;
                case 2: return h <= 5 ? k.m / 2 : 0;
                case 3: return 0;
                case 4: return h == 0 ? 0 - k.m - k.m : h <= 2 ? 0 - k.m : 0;
                case 5: return h <= 11 ? k.m / 2 : 0;
                case 6:
                    if (texts[0] != null) {
                        int v = worked(texts[0], "hwm", new int[] {h, k.way, k.m});
                        return v > 20 ? 20 : v < -20 ? -20 : v;
                    }
                    return h <= 2 ? k.m : 0;
                default: return h <= 2 ? k.m : 0;
            }
        }

        int[] wind() {
            int[] toWay = new int[4];
            for (Ship s : ships) {
                for (Knot k : s.knots) {
                    if (k.since >= 0) {
                        toWay[k.way] += force(k);
                    }
                }
            }
            return new int[] {toWay[1] - toWay[3] + east, toWay[2] - toWay[0] + south};
        }

        void pass() {
            int[] wind = wind();
            for (Ship s : ships) {
                for (int i = 0; i < Math.abs(wind[0] / 3); i++) {
                    step(s, 0, wind[0] > 0 ? 1 : -1);
                }
                for (int i = 0; i < Math.abs(wind[1] / 3); i++) {
                    step(s, wind[1] > 0 ? 1 : -1, 0);
                }
            }
            hour++;
        }

        void step(Ship s, int down, int right) {
            int row = s.row + down;
            int column = s.column + right;
            if (s.state != 0 || row < 0 || row > 7 || column < 0 || column > 7) {
                return;
            }
            s.row = row;
            s.column = column;
            if (s.cell() == s.port) {
                s.state = 2;
            } else if (land[s.cell()]) {
                s.state = 1;
            }
        }

        boolean loose(int ship, int knot) {
            Ship s = ships.get(ship);
            if (s.knots[knot].since >= 0 || !day() || s.state == 1) {
                return false;
            }
            s.knots[knot].since = hour;
            return true;
        }

        int price(Ship s, Knot k) {
            int v = texts[1] == null ? k.m * (int) s.tied()
                : worked(texts[1], "kmn", new int[] {k.kind, k.m, (int) s.tied()});
            return v < 0 ? 0 : v > 999 ? 999 : v;
        }

        int shipFact(int ship, int what) {
            Ship s = ships.get(ship);
            switch (what) {
                case 0: return s.cell();
                case 1: return s.port;
                case 2: return s.state;
                case 3: return (int) s.tied();
                default:
                    int sum = 0;
                    for (Knot k : s.knots) {
                        sum += k.since < 0 ? price(s, k) : 0;
                    }
                    return sum;
            }
        }

        int states(int state) {
            int n = 0;
            for (Ship s : ships) {
                n += s.state == state ? 1 : 0;
            }
            return n;
        }

        World ahead(int n) {
            World w = copy();
            for (int i = 0; i < n; i++) {
                w.pass();
            }
            return w;
        }

        int homeBy(int ship, int n) {
            for (int i = 0; i <= n; i++) {
                if (ahead(i).ships.get(ship).state == 2) {
                    return i;
                }
            }
            return -1;
        }
    }

    static int worked(String s, String names, int[] values) {
        for (String level : new String[] {"|", "&", "<=>", "+-", "*/%"}) {
            int depth = 0;
            for (int i = s.length() - 1; i > 0; i--) {
                char c = s.charAt(i);
                depth += c == ')' ? 1 : c == '(' ? -1 : 0;
                if (depth == 0 && level.indexOf(c) >= 0) {
                    int a = worked(s.substring(0, i), names, values);
                    int b = worked(s.substring(i + 1), names, values);
                    return joined(c, a, b);
                }
            }
        }
        if (s.charAt(0) == '!') {
            return worked(s.substring(1), names, values) == 0 ? 1 : 0;
        }
        if (s.charAt(0) == '(') {
            return worked(s.substring(1, s.length() - 1), names, values);
        }
        int name = names.indexOf(s.charAt(0));
        return name >= 0 ? values[name] : Integer.parseInt(s);
    }

    static int joined(char c, int a, int b) {
        switch (c) {
            case '|': return a != 0 | b != 0 ? 1 : 0;
            case '&': return a != 0 & b != 0 ? 1 : 0;
            case '<': return a < b ? 1 : 0;
            case '=': return a == b ? 1 : 0;
            case '>': return a > b ? 1 : 0;
            case '+': return a + b;
            case '-': return a - b;
            case '*': return a * b;
            case '/': return b == 0 ? 0 : (int) ((long) a / b);
            default: return b == 0 ? 0 : (int) ((long) a % b);
        }
    }

    /** The FAULT, or -1, by a walk over the bytes that keeps what stands open. */
    static int fault(String s, String names) {
        List<Integer> nots = new ArrayList<>(List.of(0));
        List<Boolean> compared = new ArrayList<>(List.of(false));
        boolean wanted = true;
        int digits = 0;
        for (int i = 0; i < s.length(); i++) {
            char c = s.charAt(i);
            int top = nots.size() - 1;
            int open = top;
            for (int n : nots) {
                open += n;
            }
            if (wanted) {
                digits = 0;
                if (c == '!' && open < 5) {
                    nots.set(top, nots.get(top) + 1);
                } else if (c == '(' && open < 5) {
                    nots.add(0);
                    compared.add(false);
                } else if (c >= '0' && c <= '9' || names.indexOf(c) >= 0) {
                    digits = c <= '9' ? 1 : 0;
                    wanted = false;
                    nots.set(top, 0);
                } else {
                    return i;
                }
            } else if (c >= '0' && c <= '9') {
                if (digits < 1 || digits > 3) {
                    return i;
                }
                digits++;
            } else {
                digits = 0;
                if (c == ')' && top > 0) {
                    nots.remove(top);
                    compared.remove(top);
                    nots.set(top - 1, 0);
                } else if ("<=>".indexOf(c) >= 0 && !compared.get(top)) {
                    compared.set(top, true);
                    wanted = true;
                } else if ("|&".indexOf(c) >= 0) {
                    compared.set(top, false);
                    wanted = true;
                } else if ("+-*/%".indexOf(c) >= 0) {
                    wanted = true;
                } else {
                    return i;
                }
            }
        }
        return wanted || nots.size() > 1 ? s.length() : -1;
    }

    static final class Model {
        World now = new World();
        World kept;
        int images;
        int[][] sheets = new int[4][];
        int[] bits = new int[4];
        List<Integer> trace = new ArrayList<>();
        int[] told = new int[7];

        int err(int k) {
            told[k]++;
            return LOW - k;
        }

        static boolean in(int v, int least, int most) {
            return least <= v && v <= most;
        }

        boolean noShip(int ship) {
            return ship < 0 || ship >= now.ships.size();
        }

        boolean noKnot(int ship, int knot) {
            return noShip(ship) || !in(knot, 0, 2);
        }

        int sea(String call, int a, int b, int c, int d) {
            switch (call) {
                case "land": {
                    if (!in(a, 0, 63) || !in(b, 0, 1)) {
                        return err(BEYOND);
                    }
                    boolean was = now.land[a];
                    now.land[a] = b == 1;
                    return was ? 1 : 0;
                }
                case "drift": {
                    if (!in(a, 0, 1) || !in(b, -9, 9)) {
                        return err(BEYOND);
                    }
                    int was = a == 0 ? now.east : now.south;
                    if (a == 0) {
                        now.east = b;
                    } else {
                        now.south = b;
                    }
                    return was;
                }
                case "ship": {
                    if (!in(a, 0, 63) || !in(b, 0, 63)) {
                        return err(BEYOND);
                    }
                    if (now.ships.size() == 5) {
                        return err(FULL);
                    }
                    Ship s = new Ship();
                    s.port = b;
                    now.ships.add(s);
                    lay(s, a);
                    return now.ships.size() - 1;
                }
                case "shipIs":
                    return noShip(a) || !in(b, 0, 4) ? err(BEYOND) : now.shipFact(a, b);
                case "bring": {
                    if (noShip(a) || !in(b, 0, 63)) {
                        return err(BEYOND);
                    }
                    int was = now.ships.get(a).cell();
                    lay(now.ships.get(a), b);
                    return was;
                }
                case "tie": {
                    if (noKnot(a, b) || !in(c, 0, 69) || !in(d, 0, 3)) {
                        return err(BEYOND);
                    }
                    Knot k = now.ships.get(a).knots[b];
                    int was = 100 * k.way + 10 * k.kind + k.m;
                    Knot fresh = new Knot();
                    fresh.kind = c / 10;
                    fresh.m = c % 10;
                    fresh.way = d;
                    now.ships.get(a).knots[b] = fresh;
                    return was;
                }
                case "knotIs": {
                    if (noKnot(a, b) || !in(c, 0, 5)) {
                        return err(BEYOND);
                    }
                    Ship s = now.ships.get(a);
                    Knot k = s.knots[b];
                    int[] facts = {k.kind, k.m, k.way, k.since, k.since < 0 ? 0 : now.force(k),
                        k.since < 0 ? now.price(s, k) : 0};
                    return facts[c];
                }
                case "as": {
                    if (noKnot(a, b) || !in(c, 0, 6)) {
                        return err(BEYOND);
                    }
                    Knot k = now.ships.get(a).knots[b];
                    String under = new String[] {"0", "10", "20", "30", "410", "520", "60"}[k.kind];
                    return under.indexOf('0' + c) < 0 ? err(KIND) : k.m;
                }
                case "loose":
                    if (noKnot(a, b)) {
                        return err(BEYOND);
                    }
                    return now.loose(a, b) ? now.force(now.ships.get(a).knots[b]) : err(STATE);
                default:
                    return in(a, 0, 1) ? now.wind()[a] : err(BEYOND);
            }
        }

        void lay(Ship s, int cell) {
            s.row = cell / 8;
            s.column = cell % 8;
            s.state = cell == s.port ? 2 : 0;
        }

        int feed(long word, int n) {
            if (!in(n, 1, 8)) {
                return err(BEYOND);
            }
            if (now.tape.length() + n > 60) {
                return err(FULL);
            }
            for (int i = 0; i < n; i++) {
                now.tape += (char) (word & 255);
                word >>= 8;
            }
            return now.tape.length();
        }

        int text(int use) {
            if (!in(use, 0, 1)) {
                return err(BEYOND);
            }
            String s = now.tape;
            now.tape = "";
            int fault = fault(s, use == 0 ? "hwm" : "kmn");
            if (fault >= 0) {
                return -10 - fault;
            }
            now.texts[use] = s;
            return 1;
        }

        int untell(int use) {
            if (!in(use, 0, 1)) {
                return err(BEYOND);
            }
            boolean was = now.texts[use] != null;
            now.texts[use] = null;
            return was ? 1 : 0;
        }

        int hours(int n) {
            if (!in(n, 1, 48)) {
                return err(BEYOND);
            }
            if (now.hour + n > 9999) {
                return err(STATE);
            }
            now = now.ahead(n);
            return now.states(2);
        }

        int draws(int n) {
            if (!in(n, 1, 48)) {
                return err(BEYOND);
            }
            if (now.ships.isEmpty() || now.hour + n > 9999) {
                return err(STATE);
            }
            int loosed = 0;
            for (int i = 0; i < n; i++) {
                int ship = draw() % now.ships.size();
                if (now.day()) {
                    int knot = draw() % 4;
                    loosed += knot < 3 && now.loose(ship, knot) ? 1 : 0;
                }
                now.pass();
            }
            return loosed;
        }

        int seed(int v) {
            int was = now.z;
            now.z = v;
            return was;
        }

        int draw() {
            now.z = (int) (now.z * 1103515245L + 12345L);
            return (int) ((now.z & 0xFFFFFFFFL) / 256);
        }

        int then(int n, int ship, int what) {
            return !in(n, 0, 48) || noShip(ship) || !in(what, 0, 4) ? err(BEYOND) : now.ahead(n).shipFact(ship, what);
        }

        int home(int ship, int n) {
            if (noShip(ship) || !in(n, 0, 48)) {
                return err(BEYOND);
            }
            int by = now.homeBy(ship, n);
            return by < 0 ? err(NONE) : by;
        }

        /** HOURS, FIRST KNOT, KNOTS; null: not by n. */
        int[] soonest(int ship, int n) {
            for (int hours = 0; hours <= n; hours++) {
                List<int[]> rows = new ArrayList<>();
                write(rows, new int[hours], 0, new boolean[3]);
                int[] best = null;
                for (int[] row : rows) {
                    if (leadsHome(ship, row)) {
                        int knots = (int) Arrays.stream(row).filter(k -> k < 3).count();
                        if (best == null || knots < best[2]) {
                            best = new int[] {hours, hours == 0 ? 3 : row[0], knots};
                        }
                    }
                }
                if (best != null) {
                    return best;
                }
            }
            return null;
        }

        void write(List<int[]> rows, int[] row, int at, boolean[] used) {
            if (at == row.length) {
                rows.add(row.clone());
                return;
            }
            for (int k = 0; k < 4; k++) {
                row[at] = k;
                if (k == 3) {
                    write(rows, row, at + 1, used);
                } else if (!used[k]) {
                    used[k] = true;
                    write(rows, row, at + 1, used);
                    used[k] = false;
                }
            }
        }

        boolean leadsHome(int ship, int[] row) {
            World w = now.copy();
            for (int k : row) {
                if (k < 3 && !w.loose(ship, k)) {
                    return false;
                }
                w.pass();
            }
            return w.ships.get(ship).state == 2;
        }

        int soonest(int ship, int n, int what) {
            if (noShip(ship) || !in(n, 1, 10) || !in(what, 0, 2)) {
                return err(BEYOND);
            }
            int[] best = soonest(ship, n);
            return best == null ? err(NONE) : best[what];
        }

        int bestKnot(int n, int what) {
            if (!in(n, 1, 24) || !in(what, 0, 1)) {
                return err(BEYOND);
            }
            int best = now.ahead(n).states(2);
            int which = -1;
            for (int s = 0; s < now.ships.size(); s++) {
                for (int k = 0; k < 3; k++) {
                    World w = now.copy();
                    if (w.loose(s, k)) {
                        int home = w.ahead(n).states(2);
                        if (home > best) {
                            best = home;
                            which = 10 * s + k;
                        }
                    }
                }
            }
            return which < 0 ? err(NONE) : what == 0 ? which : best;
        }

        int who(int sheet, int n, int what) {
            if (!in(sheet, 0, 3) || !in(n, 1, 24) || !in(what, 0, 2)) {
                return err(BEYOND);
            }
            if (kept == null || sheets[sheet] == null || sheets[sheet].length < kept.ships.size()) {
                return err(NONE);
            }
            int rows = lie(kept.ahead(n), sheets[sheet]) ? 1 : 0;
            List<Integer> knots = new ArrayList<>();
            for (int s = 0; s < kept.ships.size(); s++) {
                for (int k = 0; k < 3; k++) {
                    for (int t = 0; t < n; t++) {
                        World w = kept.ahead(t);
                        if (w.loose(s, k) && lie(w.ahead(n - t), sheets[sheet])) {
                            rows++;
                            if (!knots.contains(10 * s + k)) {
                                knots.add(10 * s + k);
                            }
                        }
                    }
                }
            }
            return what == 0 ? knots.size() : what == 2 ? rows : knots.isEmpty() ? err(NONE) : knots.get(0);
        }

        boolean lie(World w, int[] cells) {
            for (int s = 0; s < w.ships.size(); s++) {
                if (w.ships.get(s).cell() != cells[s]) {
                    return false;
                }
            }
            return true;
        }

        int race(int one, int other, int n) {
            if (noShip(one) || noShip(other) || one == other || !in(n, 1, 10)) {
                return err(BEYOND);
            }
            int[] a = soonest(one, n);
            int[] b = soonest(other, n);
            return (b == null ? n + 1 : b[0]) - (a == null ? n + 1 : a[0]);
        }

        static final class Parting extends Exception {
            private static final long serialVersionUID = 1L;
        }

        int voice(int ship, int knot, int voice, int x) {
            if (noKnot(ship, knot) || !in(voice, 0, 3)) {
                return err(BEYOND);
            }
            List<Integer> bodies = new ArrayList<>();
            Knot told = now.ships.get(ship).knots[knot];
            try {
                Plain spoken = spoken(told.kind);
                spoken.k = 3 * ship + knot;
                spoken.m = told.m;
                spoken.bodies = bodies;
                int[] answer = {0};
                switch (voice) {
                    case 0: answer[0] = spoken.blows(x); break;
                    case 1: answer[0] = spoken.turns(x); break;
                    case 2: answer[0] = spoken.ties(x); break;
                    default: answer[0] = spoken.parts(x);
                }
                return answer[0];
            } catch (Parting p) {
                return err(PARTED);
            } finally {
                trace = bodies.size() > 30 ? bodies.subList(0, 30) : bodies;
            }
        }

        static Plain spoken(int kind) {
            switch (kind) {
                case 1: return new Left();
                case 2: return new Slow();
                case 3: return new Empty();
                case 4: return new Joined();
                case 5: return new Long5();
                case 6: return new Told();
                default: return new Plain();
            }
        }

        // The KINDS as Java classes: Java's own dispatch answers.
        static class Plain {
            int k, m;
            List<Integer> bodies;

            int blows(int x) throws Parting {
                bodies.add(10);
                return x + k;
            }

            int turns(int x) throws Parting {
                bodies.add(11);
                return blows(x) * 2;
            }

            int ties(int x) throws Parting {
                bodies.add(12);
                return turns(x) - m;
            }

            int parts(int x) throws Parting {
                bodies.add(13);
                if (m == k) {
                    throw new Parting();
                }
                return (int) ((long) x / (m - k));
            }
        }

        static class Left extends Plain {
            int blows(int x) throws Parting {
                bodies.add(20);
                return super.blows(x) - 9;
            }

            int parts(int x) throws Parting {
                bodies.add(21);
                return super.parts(x) + turns(1);
            }
        }

        static class Slow extends Plain {
            int turns(int x) throws Parting {
                bodies.add(30);
                return 0 - super.turns(x);
            }
        }

        static class Empty extends Plain {
            int ties(int x) throws Parting {
                bodies.add(40);
                return super.ties(x / 2);
            }
        }

        static class Joined extends Left {
            int blows(int x) throws Parting {
                bodies.add(50);
                return super.blows(x) * 3;
            }

            int ties(int x) throws Parting {
                bodies.add(51);
                return super.ties(x) ^ k;
            }
        }

        static class Long5 extends Slow {
            int turns(int x) throws Parting {
                bodies.add(60);
                return super.turns(x + 1);
            }
        }

        static class Told extends Plain {
            int blows(int x) throws Parting {
                bodies.add(70);
                return 6;
            }

            int turns(int x) throws Parting {
                bodies.add(71);
                return super.turns(x) + m;
            }
        }

        int body(int i) {
            return i < 0 || i >= trace.size() ? err(NONE) : trace.get(i);
        }

        int sheet(int sheet, int b, int n) {
            if (!in(sheet, 0, 3) || b != 0 && b != 8 && b != 16 && b != 32) {
                return err(BEYOND);
            }
            if (b == 0) {
                sheets[sheet] = null;
                return 1;
            }
            if (n < 0) {
                return err(STATE);
            }
            if (n > 24) {
                return err(BEYOND);
            }
            sheets[sheet] = new int[n];
            bits[sheet] = b;
            return 1;
        }

        int put(int sheet, int i, int v) {
            if (!in(sheet, 0, 3)) {
                return err(BEYOND);
            }
            if (sheets[sheet] == null) {
                return err(NONE);
            }
            if (i < 0 || i >= sheets[sheet].length) {
                return err(BEYOND);
            }
            sheets[sheet][i] = bits[sheet] == 8 ? (byte) v : bits[sheet] == 16 ? (short) v : v;
            return 1;
        }

        int move(int sheet, int i, int other, int j, int n) {
            if (!in(sheet, 0, 3) || !in(other, 0, 3)) {
                return err(BEYOND);
            }
            if (sheets[sheet] == null || sheets[other] == null) {
                return err(NONE);
            }
            if (bits[sheet] != bits[other]) {
                return err(KIND);
            }
            if (n < 0 || i < 0 || j < 0 || (long) i + n > sheets[sheet].length || (long) j + n > sheets[other].length) {
                return err(BEYOND);
            }
            int[] were = sheets[sheet].clone();
            for (int t = 0; t < n; t++) {
                sheets[other][j + t] = were[i + t];
            }
            return n;
        }

        int lands(int sheet) {
            if (!in(sheet, 0, 3)) {
                return err(BEYOND);
            }
            if (sheets[sheet] == null) {
                return err(NONE);
            }
            int n = 0;
            while (n < sheets[sheet].length && in(sheets[sheet][n], 0, 63)) {
                now.land[sheets[sheet][n]] = true;
                n++;
            }
            return n;
        }

        int judge(int sheet, int ship) {
            if (!in(sheet, 0, 3) || noShip(ship)) {
                return err(BEYOND);
            }
            if (sheets[sheet] == null) {
                return err(NONE);
            }
            int n = 0;
            while (n < sheets[sheet].length && now.ahead(n).ships.get(ship).cell() == sheets[sheet][n]) {
                n++;
            }
            return n;
        }

        int image() {
            kept = now.copy();
            return ++images;
        }

        int restore() {
            if (kept == null) {
                return err(NONE);
            }
            now = kept.copy();
            return now.hour;
        }

        int tell(int v) {
            if (now.waiting.size() == 24) {
                return err(FULL);
            }
            now.waiting.add(v);
            return now.waiting.size();
        }

        int check() {
            List<Integer> told = now.waiting;
            now.waiting = new ArrayList<>();
            for (int i = 0; i < told.size(); i++) {
                int[] wind = now.ahead(i).wind();
                if (told.get(i) != 100 * wind[0] + wind[1]) {
                    return i + 1;
                }
            }
            return 0;
        }

        int count(int what) {
            if (!in(what, 0, 11)) {
                return err(BEYOND);
            }
            int tied = 0;
            for (Ship s : now.ships) {
                tied += (int) s.tied();
            }
            int[] all = {now.ships.size(), now.hour, now.day() ? 1 : 0, now.states(2), now.states(1), tied,
                now.tape.length(), now.waiting.size(), trace.size(), now.z, now.east, now.south};
            return all[what];
        }

        int told(int k) {
            return in(k, 1, 6) ? told[k] : err(BEYOND);
        }
    }

    // ---- the calls

    private int z;
    private KnottedWinds x;
    private Model y;
    private final StringBuilder run = new StringBuilder();
    private boolean wrong;
    private int made;
    private static final long[] counted = new long[64];

    private int rnd(int n) {
        z = z * 1664525 + 1013904223;
        return (int) ((z >>> 4 & 0xFFFFFFFL) * n >>> 28);
    }

    /** Mostly one of least .. most, now and then one beyond. */
    private int arg(int least, int most) {
        int r = rnd(40);
        if (r == 0) {
            return least - 1;
        }
        if (r == 1) {
            return most + 1;
        }
        if (r == 2 && rnd(4) == 0) {
            int[] far = {Integer.MIN_VALUE, Integer.MAX_VALUE, -7, 1000, Integer.MAX_VALUE - 1, 65};
            return far[rnd(far.length)];
        }
        return least + rnd(most - least + 1);
    }

    private int any() {
        int[] some = {0, 1, -1, 7, 100, Integer.MIN_VALUE, Integer.MAX_VALUE, -1000000001, 256, 65535};
        return rnd(2) == 0 ? some[rnd(some.length)] : rnd(200) - 100;
    }

    private int shipArg() {
        return arg(0, Math.max(0, y.now.ships.size() - 1));
    }

    private void due(String call, int got, int want) {
        made++;
        run.append(call).append(" -> ").append(got).append('\n');
        if (got != want && !wrong) {
            wrong = true;
            System.out.println(run + "due is " + want);
        }
    }

    private String written(int depth, String names) {
        int r = rnd(depth > 3 ? 4 : 12);
        if (r < 2) {
            return String.valueOf(rnd(3) == 0 ? rnd(10000) : rnd(12));
        }
        if (r < 4) {
            return String.valueOf(names.charAt(rnd(3)));
        }
        if (r == 4) {
            return "!" + written(depth + 1, names);
        }
        if (r < 7) {
            return "(" + written(depth + 1, names) + ")";
        }
        return written(depth + 1, names) + "|&<=>+-*/%+-*".charAt(rnd(13)) + written(depth + 1, names);
    }

    private void feedText() {
        int use = rnd(2);
        String s = written(0, use == 0 ? "hwm" : "kmn");
        if (rnd(4) == 0) {
            int at = rnd(s.length());
            s = s.substring(0, at) + "|&<=>+-*/%()!0129hwmkn \u0080\u00ff".charAt(rnd(24)) + s.substring(at + rnd(2));
        }
        if (rnd(12) == 0) {
            s = "!(!(((!".substring(0, 1 + rnd(7)) + s;
        }
        for (int i = 0; i < s.length(); i += 8) {
            int n = Math.min(8, s.length() - i);
            long word = 0;
            for (int j = n - 1; j >= 0; j--) {
                word = word << 8 | s.charAt(i + j);
            }
            due("feed(" + word + "L, " + n + ")", x.feed(word, n), y.feed(word, n));
        }
        int asked = rnd(20) == 0 ? arg(0, 1) : use;
        due("text(" + asked + ") // " + s, x.text(asked), y.text(asked));
    }

    /** So that lie, course and winds told are now and then the true ones. */
    private void truth() {
        int n = rnd(25);
        switch (rnd(3)) {
            case 0:
                if (y.kept == null) {
                    break;
                }
                World w = y.kept.ahead(rnd(n + 1));
                if (!w.ships.isEmpty()) {
                    w.loose(rnd(w.ships.size()), rnd(3));
                }
                w = w.ahead(Math.max(0, n + y.kept.hour - w.hour));
                due("sheet(1, 8, 5)", x.sheet(1, 8, 5), y.sheet(1, 8, 5));
                for (int i = 0; i < w.ships.size(); i++) {
                    int cell = w.ships.get(i).cell();
                    due("put(1, " + i + ", " + cell + ")", x.put(1, i, cell), y.put(1, i, cell));
                }
                for (int what = 0; what < 3; what++) {
                    due("who(1, " + n + ", " + what + ")", x.who(1, n, what), y.who(1, n, what));
                }
                break;
            case 1:
                if (y.now.ships.isEmpty()) {
                    break;
                }
                int ship = rnd(y.now.ships.size());
                int length = rnd(25);
                due("sheet(2, 16, " + length + ")", x.sheet(2, 16, length), y.sheet(2, 16, length));
                for (int i = 0; i < length - rnd(2); i++) {
                    int cell = y.now.ahead(i).ships.get(ship).cell() + (rnd(30) == 0 ? 1 : 0);
                    due("put(2, " + i + ", " + cell + ")", x.put(2, i, cell), y.put(2, i, cell));
                }
                due("judge(2, " + ship + ")", x.judge(2, ship), y.judge(2, ship));
                break;
            default:
                due("check()", x.check(), y.check());
                for (int i = 0; i < n; i++) {
                    int[] wind = y.now.ahead(i).wind();
                    int v = 100 * wind[0] + wind[1] + (rnd(30) == 0 ? 1 : 0);
                    due("tell(" + v + ")", x.tell(v), y.tell(v));
                }
                due("check()", x.check(), y.check());
        }
    }

    private void callSea() {
        int r = rnd(10);
        String[] names = {"land", "drift", "ship", "shipIs", "bring", "tie", "knotIs", "as", "loose", "wind"};
        int ship = shipArg();
        int knot = arg(0, 2);
        int a = 0, b = 0, c = 0, d = 0, got;
        switch (r) {
            case 0: got = x.land(a = arg(0, 63), b = arg(0, 1)); break;
            case 1: got = x.drift(a = arg(0, 1), b = arg(-9, 9)); break;
            case 2: got = x.ship(a = arg(0, 63), b = arg(0, 63)); break;
            case 3: got = x.shipIs(a = ship, b = arg(0, 4)); break;
            case 4: got = x.bring(a = ship, b = arg(0, 63)); break;
            case 5: got = x.tie(a = ship, b = knot, c = arg(0, 69), d = arg(0, 3)); break;
            case 6: got = x.knotIs(a = ship, b = knot, c = arg(0, 5)); break;
            case 7: got = x.as(a = ship, b = knot, c = arg(0, 6)); break;
            case 8: got = x.loose(a = ship, b = knot); break;
            default: got = x.wind(a = arg(0, 1)); break;
        }
        String call = names[r] + "(" + a + ", " + b + ", " + c + ", " + d + ")";
        due(call, got, y.sea(names[r], a, b, c, d));
    }

    private void callAhead() {
        int ship = shipArg();
        int other = shipArg();
        int what = arg(0, 2);
        int n = arg(1, 10);
        int far = arg(0, 48);
        int middle = arg(1, 24);
        int sheet = arg(0, 3);
        switch (rnd(7)) {
            case 0:
                int fact = arg(0, 4);
                due("then(" + far + ", " + ship + ", " + fact + ")", x.then(far, ship, fact), y.then(far, ship, fact));
                break;
            case 1:
                due("home(" + ship + ", " + far + ")", x.home(ship, far), y.home(ship, far));
                break;
            case 2:
            case 3:
                due("soonest(" + ship + ", " + n + ", " + what + ")", x.soonest(ship, n, what),
                    y.soonest(ship, n, what));
                break;
            case 4:
                int best = arg(0, 1);
                due("bestKnot(" + middle + ", " + best + ")", x.bestKnot(middle, best), y.bestKnot(middle, best));
                break;
            case 5:
                due("who(" + sheet + ", " + middle + ", " + what + ")", x.who(sheet, middle, what),
                    y.who(sheet, middle, what));
                break;
            default:
                due("race(" + ship + ", " + other + ", " + n + ")", x.race(ship, other, n), y.race(ship, other, n));
        }
    }

    /** A ship that has some way to go, by day, with cords that may bring it home. */
    private void callVoyage() {
        int[] likely = {0, 0, 0, 10, 20, 40, 50, 60};
        if (y.now.ships.size() < 2) {
            int cell = rnd(64);
            due("ship(0, " + cell + ")", x.ship(0, cell), y.sea("ship", 0, cell, 0, 0));
        }
        for (int i = 0; i < 2; i++) {
            int axis = rnd(2);
            int v = rnd(5) - 2;
            due("drift(" + axis + ", " + v + ")", x.drift(axis, v), y.sea("drift", axis, v, 0, 0));
        }
        int ship = rnd(y.now.ships.size());
        int port = y.now.ships.get(ship).port;
        int[] near = {8 * (port / 8) + rnd(8), 8 * rnd(8) + port % 8, rnd(64)};
        int cell = near[rnd(3)];
        for (int knot = 0; knot < 3; knot++) {
            int km = likely[rnd(likely.length)] + rnd(10);
            int way = rnd(4);
            due("tie(" + ship + ", " + knot + ", " + km + ", " + way + ")", x.tie(ship, knot, km, way),
                y.sea("tie", ship, knot, km, way));
        }
        for (int land = rnd(64); rnd(2) == 0; land = rnd(64)) {
            int v = rnd(2);
            due("land(" + land + ", " + v + ")", x.land(land, v), y.sea("land", land, v, 0, 0));
        }
        int to = Math.floorMod(3 + rnd(15) - y.now.hour, 24);
        if (to > 0) {
            due("hours(" + to + ")", x.hours(to), y.hours(to));
        }
        due("bring(" + ship + ", " + cell + ")", x.bring(ship, cell), y.sea("bring", ship, cell, 0, 0));
        int n = 1 + rnd(10);
        for (int what = 0; what < 3; what++) {
            due("soonest(" + ship + ", " + n + ", " + what + ")", x.soonest(ship, n, what), y.soonest(ship, n, what));
        }
        int other = rnd(y.now.ships.size());
        due("race(" + ship + ", " + other + ", " + n + ")", x.race(ship, other, n), y.race(ship, other, n));
        int far = 1 + rnd(24);
        for (int what = 0; what < 2; what++) {
            due("bestKnot(" + far + ", " + what + ")", x.bestKnot(far, what), y.bestKnot(far, what));
        }
        int knot = rnd(3);
        due("loose(" + ship + ", " + knot + ")", x.loose(ship, knot), y.sea("loose", ship, knot, 0, 0));
        due("home(" + ship + ", 48)", x.home(ship, 48), y.home(ship, 48));
    }

    /** A knot whose parts() is now and then by 0, and all of THE TRACE behind it. */
    private void callParting() {
        if (y.now.ships.isEmpty()) {
            return;
        }
        int ship = rnd(y.now.ships.size());
        int knot = rnd(3);
        int km = 10 * rnd(7) + Math.min(9, 3 * ship + knot + rnd(2));
        due("tie(" + ship + ", " + knot + ", " + km + ", 0)", x.tie(ship, knot, km, 0),
            y.sea("tie", ship, knot, km, 0));
        int v = any();
        due("voice(" + ship + ", " + knot + ", 3, " + v + ")", x.voice(ship, knot, 3, v), y.voice(ship, knot, 3, v));
        due("count(8)", x.count(8), y.count(8));
        for (int i = 0; i < 6; i++) {
            due("body(" + i + ")", x.body(i), y.body(i));
        }
    }

    private void callSheets() {
        int sheet = arg(0, 3);
        int other = arg(0, 3);
        int i = arg(0, 6);
        int j = arg(0, 6);
        switch (rnd(5)) {
            case 0:
                int bits = new int[] {0, 8, 16, 32, 8, 8, 9, -8}[rnd(8)];
                int n = arg(0, 24);
                due("sheet(" + sheet + ", " + bits + ", " + n + ")", x.sheet(sheet, bits, n), y.sheet(sheet, bits, n));
                break;
            case 1:
            case 2:
                int v = rnd(4) == 0 ? any() : rnd(64);
                due("put(" + sheet + ", " + i + ", " + v + ")", x.put(sheet, i, v), y.put(sheet, i, v));
                break;
            case 3:
                int m = arg(0, 6);
                due("move(" + sheet + ", " + i + ", " + other + ", " + j + ", " + m + ")",
                    x.move(sheet, i, other, j, m), y.move(sheet, i, other, j, m));
                break;
            default:
                if (rnd(4) == 0) {
                    due("lands(" + sheet + ")", x.lands(sheet), y.lands(sheet));
                } else {
                    int ship = shipArg();
                    due("judge(" + sheet + ", " + ship + ")", x.judge(sheet, ship), y.judge(sheet, ship));
                }
        }
    }

    private void callRest() {
        int n = rnd(3) == 0 ? arg(1, 48) : arg(1, 6);
        switch (rnd(14)) {
            case 0: {
                int bytes = arg(1, 8);
                long word = (long) any() << 32 ^ any();
                due("feed(" + word + "L, " + bytes + ")", x.feed(word, bytes), y.feed(word, bytes));
                break;
            }
            case 1: {
                int use = arg(0, 1);
                due("text(" + use + ")", x.text(use), y.text(use));
                break;
            }
            case 2: {
                int use = arg(0, 1);
                due("untell(" + use + ")", x.untell(use), y.untell(use));
                break;
            }
            case 3:
            case 4:
                due("hours(" + n + ")", x.hours(n), y.hours(n));
                break;
            case 5:
                due("draws(" + n + ")", x.draws(n), y.draws(n));
                break;
            case 6: {
                int v = any();
                due("seed(" + v + ")", x.seed(v), y.seed(v));
                break;
            }
            case 7:
                if (rnd(3) == 0) {
                    due("image()", x.image(), y.image());
                } else if (rnd(3) == 0) {
                    due("restore()", x.restore(), y.restore());
                }
                break;
            case 8: {
                int v = any();
                due("tell(" + v + ")", x.tell(v), y.tell(v));
                break;
            }
            case 9:
                if (rnd(6) == 0) {
                    due("check()", x.check(), y.check());
                }
                break;
            case 10: {
                int what = arg(0, 11);
                due("count(" + what + ")", x.count(what), y.count(what));
                break;
            }
            case 11: {
                int k = arg(1, 6);
                due("told(" + k + ")", x.told(k), y.told(k));
                break;
            }
            case 12: {
                int i = arg(0, 8);
                due("body(" + i + ")", x.body(i), y.body(i));
                break;
            }
            default: {
                if (rnd(6) == 0) {
                    callParting();
                    break;
                }
                int ship = shipArg();
                int knot = arg(0, 2);
                int voice = arg(0, 3);
                int v = any();
                due("voice(" + ship + ", " + knot + ", " + voice + ", " + v + ")", x.voice(ship, knot, voice, v),
                    y.voice(ship, knot, voice, v));
            }
        }
    }

    private boolean go(int seed, int calls) {
        z = seed * 7919 + 13;
        x = new KnottedWinds();
        y = new Model();
        // An object is used for at most 512 calls: some 80 are left for what is called together, and for the end.
        for (int i = 0; i < calls && made < 430 && !wrong; i++) {
            int r = rnd(100);
            if (seed % 3 == 0 && i % 8 == 0) {
                callVoyage();
            }
            if (r < 45) {
                callSea();
            } else if (r < 60) {
                callAhead();
            } else if (r < 70) {
                callSheets();
            } else if (r < 97) {
                callRest();
            } else if (r < 99) {
                feedText();
            } else {
                truth();
            }
        }
        for (int what = 0; what < 12; what++) {
            due("count(" + what + ")", x.count(what), y.count(what));
        }
        for (int k = 1; k < 7; k++) {
            due("told(" + k + ")", x.told(k), y.told(k));
            counted[k] += y.told[k];
        }
        if (made > 512) {
            wrong = true;
            System.out.println(made + " calls were made on one object");
        }
        return !wrong;
    }

    public static void main(String[] args) {
        int runs = args.length > 0 ? Integer.parseInt(args[0]) : 200;
        for (int seed = 1; seed <= runs; seed++) {
            if (!new ModelTest().go(seed, seed % 3 == 0 ? 140 : 460)) {
                System.out.println("run " + seed + " is not as the second reading has it");
                System.exit(1);
            }
        }
        System.out.println(runs + " runs are as the second reading has them; ERRORS told, by number: "
            + Arrays.toString(Arrays.copyOfRange(counted, 1, 7)));
    }
}
