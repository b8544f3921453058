/** Promises 18 to 23, each boundary case by itself: AHEAD, HOME by n, SOONEST, BEST KNOT, WHO, RACE. */
public final class EdgeAheadTest extends Edges {
    /** A SHIP in CELL 0 that DRIFT brings one CELL to the east in each HOUR, in this HOUR. */
    private static void drifting(KnottedWinds x, int port, int hour) {
        x.ship(0, port);
        till(x, hour);
        x.drift(0, 3);
    }

    /** A SHIP in CELL 0 with PORT 1, at 6 o'clock; its KNOT 0, TIED, brings it HOME h HOURS behind its loosing. */
    private static void knotOf(KnottedWinds x, int h) {
        x.ship(0, 1);
        x.hours(6);
        text(x, 0, "(h=" + h + ")*3");
        x.tie(0, 0, 60, EAST);
    }

    private static void then() {
        promise(18);
        Run three = x -> drifting(x, 63, 6);
        onlyAsks("n 0, the least: as it is", 0, three, x -> x.then(0, 0, 0));
        onlyAsks("n 1", 1, three, x -> x.then(1, 0, 0));
        onlyAsks("n 48, the most", 7, three, x -> x.then(48, 0, 0));
        onlyAsks("the 48th HOUR is one of 48", 1, x -> {
            knotOf(x, 47);
            x.loose(0, 0);
        }, x -> x.then(48, 0, 0));
        onlyAsks("the 48th HOUR is none of 47", 0, x -> {
            knotOf(x, 47);
            x.loose(0, 0);
        }, x -> x.then(47, 0, 0));
        onlyAsks("the 49th HOUR is none of 48", 0, x -> {
            knotOf(x, 48);
            x.loose(0, 0);
        }, x -> x.then(48, 0, 0));
        beyond("n", 0, 48, (x, v) -> x.then(v, 0, 0));
        beyondShips((x, v) -> x.then(1, v, 0));
        onlyAsks("SHIP 4, the last of five", 33, x -> {
            fleet(x, 5);
            x.drift(0, 3);
        }, x -> x.then(1, 4, 0));
        onlyAsks("what 1: PORT", 63, three, x -> x.then(9, 0, 1));
        onlyAsks("what 2: 0 SAILING", 0, x -> drifting(x, 7, 0), x -> x.then(6, 0, 2));
        onlyAsks("what 2: 2 HOME", 2, x -> drifting(x, 7, 0), x -> x.then(7, 0, 2));
        onlyAsks("what 2: 1 WRECKED", 1, x -> {
            drifting(x, 7, 0);
            x.land(6, 1);
        }, x -> x.then(6, 0, 2));
        onlyAsks("a WRECKED one stays", 6, x -> {
            drifting(x, 7, 0);
            x.land(6, 1);
        }, x -> x.then(7, 0, 0));
        onlyAsks("a HOME one stays", 3, x -> drifting(x, 3, 0), x -> x.then(48, 0, 0));
        onlyAsks("what 3: as many TIED: nothing more is loosed", 3, three, x -> x.then(48, 0, 3));
        onlyAsks("what 4, the last: WORTH", 27, x -> {
            drifting(x, 63, 6);
            x.tie(0, 2, 9, EAST);
        }, x -> x.then(48, 0, 4));
        beyond("what", 0, 4, (x, v) -> x.then(1, 0, v));
        onlyAsks("beyond HOUR 9999, too", 2, x -> drifting(x, 63, 9999), x -> x.then(2, 0, 0));
        onlyAsks("beyond HOUR 9999 a KNOT goes on, and ends", 3, x -> {
            x.ship(0, 63);
            till(x, 9999);
            x.tie(0, 0, 3, EAST);
            x.loose(0, 0);
        }, x -> x.then(48, 0, 0));
    }

    private static void home() {
        promise(19);
        onlyAsks("n 0, the least, of a HOME one", 0, x -> x.ship(9, 9), x -> x.home(0, 0));
        onlyAsks("n 48, of a HOME one", 0, x -> x.ship(9, 9), x -> x.home(0, 48));
        refused("n 0, of one that sails", NONE, x -> drifting(x, 1, 0), x -> x.home(0, 0));
        onlyAsks("by n, just so", 7, x -> drifting(x, 7, 0), x -> x.home(0, 7));
        refused("one HOUR too late", NONE, x -> drifting(x, 7, 0), x -> x.home(0, 6));
        onlyAsks("behind 1, the first HOUR", 1, x -> drifting(x, 1, 0), x -> x.home(0, 1));
        onlyAsks("HOME first: it stays so", 7, x -> drifting(x, 7, 0), x -> x.home(0, 48));
        onlyAsks("n 48, the most, just so", 48, x -> {
            knotOf(x, 47);
            x.loose(0, 0);
        }, x -> x.home(0, 48));
        refused("n 47, one HOUR too late", NONE, x -> {
            knotOf(x, 47);
            x.loose(0, 0);
        }, x -> x.home(0, 47));
        refused("n 48, one HOUR too late", NONE, x -> {
            knotOf(x, 48);
            x.loose(0, 0);
        }, x -> x.home(0, 48));
        beyond("n", 0, 48, (x, v) -> x.home(2, v));
        beyondShips((x, v) -> x.home(v, 48));
        refused("a WRECKED one", NONE, x -> x.home(1, 48));
        refused("BEYOND is asked ahead of NONE", BEYOND, x -> x.home(1, 49));
        refused("one that is WRECKED on its way", NONE, x -> {
            drifting(x, 7, 0);
            x.land(6, 1);
        }, x -> x.home(0, 48));
        refused("nothing more is loosed", NONE, x -> knotOf(x, 0), x -> x.home(0, 48));
        onlyAsks("SHIP 4, the last of five", 3, x -> {
            fleet(x, 4);
            x.ship(32, 35);
            x.drift(0, 3);
        }, x -> x.home(4, 48));
        onlyAsks("beyond HOUR 9999, too", 7, x -> drifting(x, 7, 9999), x -> x.home(0, 7));
    }

    /** SOONEST of SHIP 0 by n: HOURS, FIRST KNOT, KNOTS. */
    private static void soonestIs(String of, Run ahead, int n, int hours, int first, int knots) {
        onlyAsks(of + ": HOURS", hours, ahead, x -> x.soonest(0, n, 0));
        onlyAsks(of + ": FIRST KNOT", first, ahead, x -> x.soonest(0, n, 1));
        onlyAsks(of + ": KNOTS", knots, ahead, x -> x.soonest(0, n, 2));
    }

    private static void neverSoonest(String of, Run ahead, int n) {
        for (int what = 0; what < 3; what++) {
            int w = what;
            refused(of + ", what " + w, NONE, ahead, x -> x.soonest(0, n, w));
        }
    }

    /** A SHIP in CELL 0 with PORT 1, in this HOUR; its KNOT 1 blows it there. */
    private static Run from(int hour) {
        return x -> {
            x.ship(0, 1);
            till(x, hour);
            x.tie(0, 1, 3, EAST);
        };
    }

    private static void soonest() {
        promise(20);
        beyond("n", 1, 10, (x, v) -> x.soonest(2, v, 0));
        beyond("what", 0, 2, (x, v) -> x.soonest(2, 5, v));
        beyondShips((x, v) -> x.soonest(v, 5, 0));
        refused("BEYOND of n is asked ahead of NONE", BEYOND, x -> x.soonest(1, 11, 0));
        refused("BEYOND of what is asked ahead of NONE", BEYOND, x -> x.soonest(1, 10, 3));
        soonestIs("a HOME one, n 1, the least", x -> x.ship(9, 9), 1, 0, 3, 0);
        soonestIs("a HOME one, n 10, the most", x -> x.ship(9, 9), 10, 0, 3, 0);
        soonestIs("by DRIFT, n just so", x -> drifting(x, 7, 6), 7, 7, 3, 0);
        neverSoonest("by DRIFT, one HOUR too late", x -> drifting(x, 7, 6), 6);
        for (int way = 0; way < 4; way++) {
            soonestIs("WAY " + way, ways(way, AROUND[way], 3), 10, 1, 1, 1);
            neverSoonest("WAY " + way + ", its PORT the other WAY", ways(way, AROUND[(way + 2) % 4], 3), 10);
        }
        soonestIs("n 1, just so", from(6), 1, 1, 1, 1);
        soonestIs("n 10, just so", x -> knotOf(x, 9), 10, 10, 0, 1);
        neverSoonest("n 10, one HOUR too late", x -> knotOf(x, 10), 10);
        neverSoonest("n 9, one HOUR too late", x -> knotOf(x, 9), 9);
        onlyAsks("SHIP 4, KNOT 2, the last of all", 2, x -> {
            fleet(x, 4);
            x.ship(32, 33);
            x.hours(6);
            x.tie(4, 2, 3, EAST);
        }, x -> x.soonest(4, 5, 1));
        soonestByWinds();
        soonestByDay();
        soonestByState();
        soonestWays();
    }

    /** SHIP 0 is HOME a CELL to this WAY; SHIP 1's TOLD KNOT, loosed now, blows in the HOUR h behind now alone. */
    private static Run blowsIn(int h, int force, int way) {
        return x -> {
            x.ship(0, way == EAST ? 1 : 8);
            x.ship(63, 0);
            x.hours(6);
            text(x, 0, "(h=" + h + ")*" + force);
            x.tie(1, 0, 60, way);
            x.loose(1, 0);
        };
    }

    private static void soonestByWinds() {
        for (int h = 0; h < 10; h++) {
            for (int way : new int[] {EAST, SOUTH}) {
                soonestIs("what is loosed blows in HOUR " + h + " to WAY " + way, blowsIn(h, 3, way), 10, h + 1, 3, 0);
                if (h > 0) {
                    neverSoonest("what is loosed blows in HOUR " + h + " to WAY " + way + ", too late",
                        blowsIn(h, 3, way), h);
                }
            }
        }
        neverSoonest("what is loosed blows in HOUR 10, beyond n", blowsIn(10, 3, EAST), 10);
    }

    /** Five SHIPS at 7 o'clock, one WRECKED; the others are HOME by a CELL to the east, to which one KNOT blows. */
    private static void wreckedOfFive(KnottedWinds x, int wrecked, int of) {
        for (int i = 0; i < 5; i++) {
            x.ship(8 * i, i == wrecked ? 63 : 8 * i + 2);
        }
        x.land(8 * wrecked + 1, 1);
        x.hours(6);
        x.drift(0, 3);
        x.hours(1);
        x.drift(0, 0);
        x.tie(of, 1, 3, EAST);
    }

    /** As blowsIn(), by 2 alone: it needs SHIP 0's KNOT 2, which blows so, too. */
    private static Run blowsWith(int h, int way) {
        return x -> {
            blowsIn(h, 2, way).on(x);
            x.tie(0, 2, 60, way);
        };
    }

    private static void soonestByDay() {
        neverSoonest("HOUR 5: not ahead of it", from(5), 1);
        soonestIs("HOUR 5: ahead of the next one", from(5), 2, 2, 3, 1);
        soonestIs("HOUR 17: ahead of it", from(17), 10, 1, 1, 1);
        neverSoonest("HOUR 18: nor ahead of nine more", from(18), 10);
        neverSoonest("HOUR 20: the tenth is 29, night", from(20), 10);
        soonestIs("HOUR 21: the tenth is 30, DAY", from(21), 10, 10, 3, 1);
        soonestIs("HOUR 0: ahead of HOUR 6", from(0), 7, 7, 3, 1);
        neverSoonest("HOUR 0: not ahead of HOUR 5", from(0), 6);
        soonestIs("HOUR 9999: it is DAY", from(9999), 10, 1, 1, 1);
        soonestIs("HOUR 10001, beyond 9999, is DAY", x -> aheadOfTheFourth(x, 9998), 10, 4, 3, 1);
        neverSoonest("HOUR 10002, beyond 9999, is night", x -> aheadOfTheFourth(x, 9999), 10);
    }

    /** HOME in CELL 12, if its KNOT 2, to the south, is loosed ahead of the fourth HOUR, and of no other. */
    private static void aheadOfTheFourth(KnottedWinds x, int hour) {
        x.ship(0, 12);
        for (int land = 9; land < 12; land++) {
            x.land(land, 1);
        }
        till(x, hour);
        x.drift(0, 3);
        x.tie(0, 2, 3, SOUTH);
    }

    /** A SHIP in CELL 0, HOUR 7; KNOT 0, loosed in HOUR 6, blows this way by one CELL for two HOURS more. */
    private static void blown(KnottedWinds x, int port, int way) {
        x.ship(9, port);
        x.hours(6);
        x.tie(0, 0, 3, way);
        x.loose(0, 0);
        x.hours(1);
        x.bring(0, 0);
    }

    /** Five SHIPS, each a CELL to the west of its PORT; KNOT k of SHIP s alone blows, to the east, by a CELL. */
    private static void oneBlows(KnottedWinds x, int s, int k) {
        for (int i = 0; i < 5; i++) {
            x.ship(8 * i, 8 * i + 1);
        }
        x.hours(6);
        x.tie(s, k, 3, EAST);
    }

    private static void onlyTied(KnottedWinds x, int s, int k) {
        oneBlows(x, s, k);
        for (int i = 0; i < 15; i++) {
            if (i != 3 * s + k) {
                x.loose(i / 3, i % 3);
            }
        }
    }

    private static void onlyLoosed(KnottedWinds x, int s, int k) {
        oneBlows(x, s, k);
        x.loose(s, k);
        x.hours(3);
        x.bring(s, 8 * s);
    }

    private static void soonestByState() {
        soonestIs("the HOURS of a loosed one, to the east", x -> blown(x, 2, EAST), 10, 2, 3, 0);
        neverSoonest("the HOURS of a loosed one, to the east: they end", x -> blown(x, 3, EAST), 10);
        soonestIs("the HOURS of a loosed one, to the south", x -> blown(x, 16, SOUTH), 10, 2, 3, 0);
        neverSoonest("the HOURS of a loosed one, to the south: they end", x -> blown(x, 24, SOUTH), 10);
        neverSoonest("a WRECKED one", x -> {
            x.ship(0, 63);
            x.land(1, 1);
            x.hours(6);
            x.drift(0, 3);
            x.hours(1);
            x.drift(0, 0);
            x.tie(0, 0, 3, EAST);
        }, 10);
        neverSoonest("one that is WRECKED on every way", x -> {
            x.ship(0, 2);
            x.land(1, 1);
            x.hours(6);
            x.tie(0, 0, 9, EAST);
        }, 10);
        neverSoonest("a loosed one isn't loosed again", x -> {
            x.ship(0, 4);
            x.hours(6);
            for (int knot = 0; knot < 3; knot++) {
                x.tie(0, knot, 3, EAST);
                x.loose(0, knot);
            }
            x.hours(3);
            x.bring(0, 3);
        }, 10);
        for (int i = 0; i < 15; i++) {
            int s = i / 3;
            int k = i % 3;
            String of = "of five SHIPS, SHIP " + s + " KNOT " + k;
            onlyAsks(of + " being TIED alone", k, x -> onlyTied(x, s, k), x -> x.soonest(s, 1, 1));
            refused(of + " being loosed alone", NONE, x -> onlyLoosed(x, s, k), x -> x.soonest(s, 10, 0));
        }
        soonestIs("a loosed one blows on", x -> {
            x.ship(0, 3);
            x.hours(6);
            x.tie(0, 0, 3, EAST);
            x.loose(0, 0);
            x.hours(1);
        }, 10, 2, 3, 0);
        neverSoonest("another SHIP's are not loosed", x -> {
            x.ship(0, 1);
            x.ship(0, 1);
            x.hours(6);
            x.tie(1, 0, 3, EAST);
        }, 10);
        soonestIs("another SHIP's that is loosed blows", x -> {
            x.ship(0, 1);
            x.ship(0, 1);
            x.hours(6);
            x.tie(1, 0, 3, EAST);
            x.loose(1, 0);
        }, 10, 1, 3, 0);
    }

    private static void soonestWays() {
        soonestIs("one in an HOUR at most: two need two HOURS", x -> {
            x.ship(0, 9);
            x.land(8, 1);
            x.hours(6);
            text(x, 0, "(h=0)*3");
            x.tie(0, 0, 60, SOUTH);
            x.tie(0, 1, 60, EAST);
        }, 10, 2, 1, 2);
        soonestIs("all three of its KNOTS, in three HOURS", x -> {
            x.ship(0, 3);
            x.hours(6);
            text(x, 0, "(h=0)*3");
            for (int knot = 0; knot < 3; knot++) {
                x.tie(0, knot, 60, EAST);
            }
        }, 3, 3, 0, 3);
        soonestIs("fewest HOURS go ahead of fewest KNOTS", x -> {
            x.ship(0, 4);
            x.hours(6);
            x.drift(0, 3);
            x.tie(0, 0, 6, EAST);
        }, 10, 2, 0, 1);
        soonestIs("fewest KNOTS go ahead of the least row: none", x -> {
            x.ship(0, 1);
            x.hours(6);
            x.drift(0, 3);
        }, 10, 1, 3, 0);
        soonestIs("fewest KNOTS go ahead of the least row: 1 alone, not 0 and 1", x -> {
            once(x, 30, 42, 30);
        }, 10, 2, 1, 1);
        soonestIs("the least row: 0, 3 ahead of 1, 3 and of 3, 0", x -> {
            once(x, 42, 42, 42);
        }, 10, 2, 0, 1);
        soonestIs("the least row: 1, 3 ahead of 2, 3 and of 3, 1", x -> {
            once(x, 30, 42, 42);
        }, 10, 2, 1, 1);
        soonestIs("the least row: 2, 3 ahead of 3, 2: none is 3, the most", x -> {
            once(x, 30, 30, 42);
        }, 10, 2, 2, 1);
        soonestIs("3, 0: loosed later, none now", x -> {
            once(x, 42, 30, 30);
            x.land(1, 1);
        }, 10, 2, 3, 1);
        soonestIs("0, 3: LAND on the way of 3, 0", x -> {
            once(x, 42, 30, 30);
            x.land(8, 1);
        }, 10, 2, 0, 1);
    }

    /** DRIFT to the south; a JOINED one of m 2 to the west blows one CELL east in its own HOUR alone. HOME in two. */
    private static void once(KnottedWinds x, int first, int second, int third) {
        x.ship(0, 17);
        x.hours(6);
        x.drift(1, 3);
        x.tie(0, 0, first, WEST);
        x.tie(0, 1, second, WEST);
        x.tie(0, 2, third, WEST);
    }

    private static void bestIs(String of, Run ahead, int n, int which, int home) {
        onlyAsks(of + ": which", which, ahead, x -> x.bestKnot(n, 0));
        onlyAsks(of + ": how many are HOME", home, ahead, x -> x.bestKnot(n, 1));
    }

    private static void noneIsBest(String of, Run ahead, int n) {
        refused(of + ", what 0", NONE, ahead, x -> x.bestKnot(n, 0));
        refused(of + ", what 1", NONE, ahead, x -> x.bestKnot(n, 1));
    }

    private static void bestKnot() {
        promise(21);
        Run one = from(6);
        bestIs("n 1, the least", one, 1, 1, 1);
        bestIs("n 24, the most", one, 24, 1, 1);
        beyond("n", 1, 24, one, (x, v) -> x.bestKnot(v, 0));
        beyond("what", 0, 1, one, (x, v) -> x.bestKnot(1, v));
        refused("BEYOND is asked ahead of NONE", BEYOND, Edges::nothing, x -> x.bestKnot(25, 0));
        noneIsBest("no SHIPS", Edges::nothing, 1);
        bestIs("HOME in the 24th HOUR of 24", x -> knotOf(x, 23), 24, 0, 1);
        noneIsBest("HOME in the 24th HOUR of 23", x -> knotOf(x, 23), 23);
        noneIsBest("HOME in the 25th HOUR of 24", x -> knotOf(x, 24), 24);
        noneIsBest("HOUR 5: none could be LOOSED now", from(5), 24);
        bestIs("HOUR 17", from(17), 24, 1, 1);
        noneIsBest("HOUR 18: none could be LOOSED now", from(18), 24);
        bestIs("HOUR 9999, and on beyond it", x -> {
            x.ship(0, 3);
            till(x, 9999);
            x.tie(0, 2, 3, EAST);
        }, 3, 2, 1);
        bestIs("SHIP 4, KNOT 2, the last of all, and all five are HOME", x -> {
            for (int i = 0; i < 5; i++) {
                x.ship(8 * i, 8 * i + 1);
            }
            x.hours(6);
            x.tie(4, 2, 3, EAST);
        }, 1, 42, 5);
        for (int i = 0; i < 25; i++) {
            int wrecked = i / 5;
            int other = i % 5;
            String of = "of five SHIPS, SHIP " + wrecked + " WRECKED, a KNOT of SHIP " + other;
            if (wrecked == other) {
                noneIsBest(of, x -> wreckedOfFive(x, wrecked, other), 3);
            } else {
                bestIs(of, x -> wreckedOfFive(x, wrecked, other), 3, 10 * other + 1, 4);
            }
        }
        for (int h = 0; h < 24; h++) {
            for (int way : new int[] {EAST, SOUTH}) {
                bestIs("with what blows in HOUR " + h + " to WAY " + way, blowsWith(h, way), h + 1, 2, 1);
            }
        }
        for (int ship = 0; ship < 5; ship++) {
            int s = ship;
            noneIsBest("of five SHIPS one is HOME without any: SHIP " + s, x -> {
                for (int i = 0; i < 5; i++) {
                    x.ship(8 * i, i == s ? 8 * i : 63);
                }
                x.hours(6);
            }, 24);
        }
        bestByWinds();
        bestByState();
        bestByNumbers();
    }

    /** CELLS around 27 by the WAYS that lead there. */
    private static final int[] AROUND = {19, 28, 35, 26};

    /** A SHIP in CELL 27, by DAY, with its PORT one CELL, or two, that WAY; KNOT 1, TIED, blows to it. */
    private static Run ways(int way, int port, int m) {
        return x -> {
            x.ship(27, port);
            x.hours(6);
            x.tie(0, 1, m, way);
        };
    }

    /** What is loosed already blows for two HOURS more; KNOT 1, JOINED, blows across by one CELL in its own HOUR. */
    private static Run acrossBlown(int port, int way, int across) {
        return x -> {
            blown(x, port, way);
            x.tie(0, 1, 42, across);
        };
    }

    private static void bestByWinds() {
        for (int way = 0; way < 4; way++) {
            bestIs("WAY " + way, ways(way, AROUND[way], 3), 1, 1, 1);
            noneIsBest("WAY " + way + ", its PORT the other WAY", ways(way, AROUND[(way + 2) % 4], 3), 1);
            int w = way;
            Run drifted = x -> {
                ways(w, 2 * AROUND[w] - 27, 3).on(x);
                x.drift(w == EAST || w == WEST ? 0 : 1, w == EAST || w == SOUTH ? 3 : -3);
            };
            bestIs("WAY " + way + ", and DRIFT", drifted, 1, 1, 1);
        }
        bestIs("what is loosed blows on to the east", acrossBlown(10, EAST, NORTH), 24, 1, 1);
        noneIsBest("what is loosed blows on to the east, and ends", acrossBlown(11, EAST, NORTH), 24);
        bestIs("what is loosed blows on to the south", acrossBlown(17, SOUTH, WEST), 24, 1, 1);
        noneIsBest("what is loosed blows on to the south, and ends", acrossBlown(25, SOUTH, WEST), 24);
    }

    private static void bestByState() {
        noneIsBest("a loosed one could not be LOOSED now", x -> {
            x.ship(0, 4);
            x.hours(6);
            x.tie(0, 1, 3, EAST);
            x.loose(0, 1);
            x.hours(3);
            x.bring(0, 3);
        }, 24);
        Run wrecked = x -> {
            x.ship(9, 63);
            x.ship(40, 42);
            x.hours(6);
            x.land(10, 1);
            x.drift(0, 3);
            x.hours(1);
            x.drift(0, 0);
            x.tie(0, 0, 3, EAST);
        };
        noneIsBest("a WRECKED one's could not be LOOSED now", wrecked, 24);
        bestIs("a HOME one's could", x -> {
            x.ship(9, 9);
            x.ship(40, 41);
            x.hours(6);
            x.tie(0, 1, 3, EAST);
        }, 1, 1, 2);
        noneIsBest("as many are HOME without any", x -> {
            x.ship(0, 1);
            x.hours(6);
            x.drift(0, 3);
            x.tie(0, 0, 3, EAST);
        }, 1);
        noneIsBest("all are HOME already", x -> {
            x.ship(9, 9);
            x.hours(6);
            x.tie(0, 0, 3, EAST);
        }, 24);
        noneIsBest("one comes HOME by it, and another doesn't", x -> {
            x.ship(0, 1);
            x.ship(39, 38);
            x.hours(6);
            x.drift(0, -3);
            x.tie(0, 0, 6, EAST);
        }, 1);
    }

    private static void bestByNumbers() {
        bestIs("of several the least KNOT", x -> {
            x.ship(0, 1);
            x.hours(6);
            x.tie(0, 1, 3, EAST);
            x.tie(0, 2, 9, EAST);
        }, 1, 1, 1);
        bestIs("of several the least SHIP", x -> {
            x.ship(0, 1);
            x.ship(63, 8);
            x.hours(6);
            x.tie(0, 2, 3, EAST);
            x.tie(1, 0, 3, EAST);
        }, 1, 2, 1);
        bestIs("most SHIPS go ahead of the least number", x -> {
            x.ship(0, 1);
            x.ship(8, 11);
            x.hours(6);
            x.tie(0, 0, 3, EAST);
            x.tie(1, 1, 9, EAST);
        }, 1, 11, 2);
        bestIs("behind n HOURS: later the least does as well", x -> {
            x.ship(0, 1);
            x.ship(8, 11);
            x.hours(6);
            x.tie(0, 0, 3, EAST);
            x.tie(1, 1, 9, EAST);
        }, 3, 0, 2);
    }

    // ---- who

    /** SHIPS in CELLS 0, 8; KNOT 1 of SHIP 0 blows east by one; an IMAGE in this HOUR; SHEET 0 tells these CELLS. */
    private static Run told(int hour, int... cells) {
        return x -> {
            fleet(x, 2);
            x.tie(0, 1, 3, EAST);
            till(x, hour);
            x.image();
            x.sheet(0, 8, cells.length);
            for (int i = 0; i < cells.length; i++) {
                x.put(0, i, cells[i]);
            }
        };
    }

    private static void whoIs(String of, Run ahead, int n, int knots, int first, int rows) {
        onlyAsks(of + ": how many KNOTS", knots, ahead, x -> x.who(0, n, 0));
        if (first < 0) {
            refused(of + ": no first", NONE, ahead, x -> x.who(0, n, 1));
        } else {
            onlyAsks(of + ": the first", first, ahead, x -> x.who(0, n, 1));
        }
        onlyAsks(of + ": ROWS", rows, ahead, x -> x.who(0, n, 2));
    }

    private static void who() {
        promise(22);
        Run two = told(6, 1, 9);
        beyond("SHEET", 0, 3, two, (x, v) -> x.who(v, 1, 0));
        beyond("n", 1, 24, two, (x, v) -> x.who(0, v, 0));
        beyond("what", 0, 2, two, (x, v) -> x.who(0, 1, v));
        refused("BEYOND is asked ahead of NONE", BEYOND, Edges::nothing, x -> x.who(0, 25, 0));
        onlyAsks("SHEET 3, the last", 1, x -> {
            told(6, 1, 9).on(x);
            x.sheet(3, 8, 2);
            x.move(0, 0, 3, 0, 2);
        }, x -> x.who(3, 1, 0));
        for (int what = 0; what < 3; what++) {
            int w = what;
            refused("there is no IMAGE, what " + w, NONE, x -> {
                fleet(x, 2);
                x.sheet(0, 8, 2);
            }, x -> x.who(0, 1, w));
            refused("the SHEET is missing, what " + w, NONE, two, x -> x.who(1, 1, w));
            refused("the SHEET has one number fewer, what " + w, NONE, told(6, 1), x -> x.who(0, 1, w));
            refused("the SHEET has no number, what " + w, NONE, told(6), x -> x.who(0, 1, w));
        }
        whoIs("as many numbers as SHIPS", two, 1, 1, 1, 1);
        whoIs("one number more, which matters not", told(6, 1, 9, 200), 1, 1, 1, 1);
        whoIs("24 numbers, the most", x -> {
            two.on(x);
            x.sheet(0, 16, 24);
            x.put(0, 0, 1);
            x.put(0, 1, 9);
        }, 1, 1, 1, 1);
        whoIs("the IMAGE has no SHIPS, the SHEET no numbers: all lie so", x -> {
            x.image();
            x.sheet(0, 8, 0);
            fleet(x, 2);
        }, 24, 0, -1, 1);
        whoIs("five SHIPS, all fifteen KNOTS, 24 HOURS: ahead of 12 of DAY, and with none", x -> {
            fleet(x, 5);
            x.hours(6);
            x.image();
            x.sheet(0, 8, 5);
            for (int i = 0; i < 5; i++) {
                x.put(0, i, 8 * i);
            }
        }, 24, 15, 0, 181);
        whoHours();
        whoByWinds();
        whoByDay();
        whoByState();
        whoOfFive();
        whoLies();
    }

    private static void whoHours() {
        whoIs("n 3: ahead of the first HOUR", told(6, 3, 11), 3, 1, 1, 1);
        whoIs("n 3: ahead of the second HOUR", told(6, 2, 10), 3, 1, 1, 1);
        whoIs("n 3: ahead of the third HOUR, the last", told(6, 1, 9), 3, 1, 1, 1);
        whoIs("n 1: ahead of the first HOUR, the last", told(6, 1, 9), 1, 1, 1, 1);
        whoIs("n 1: none can go two CELLS", told(6, 2, 10), 1, 0, -1, 0);
        whoIs("n 3: none can go four CELLS", told(6, 4, 12), 3, 0, -1, 0);
        whoIs("n 24, the most: ahead of HOURS 6 .. 17 it goes three CELLS", told(6, 3, 11), 24, 1, 1, 12);
        whoIs("n 12: ahead of HOURS 16, 17 it goes fewer", told(6, 3, 11), 12, 1, 1, 10);
        whoIs("n 24 from HOUR 7 on: ahead of HOUR 30 it goes one CELL", told(7, 1, 9), 24, 1, 1, 1);
    }

    /** SHEET 0 tells this CELL of SHIP 0, of an IMAGE that is made behind these calls. */
    private static Run toldBehind(Run ahead, int cell) {
        return x -> {
            ahead.on(x);
            x.image();
            x.sheet(0, 8, 1);
            x.put(0, 0, cell);
        };
    }

    private static void whoByWinds() {
        for (int way = 0; way < 4; way++) {
            whoIs("WAY " + way, toldBehind(ways(way, 63, 3), AROUND[way]), 1, 1, 1, 1);
            whoIs("WAY " + way + ", it lies the other WAY", toldBehind(ways(way, 63, 3), AROUND[(way + 2) % 4]), 1,
                0, -1, 0);
        }
        whoIs("what is loosed blows on to the east, and ends", toldBehind(acrossBlown(63, EAST, NORTH), 10), 3, 1, 1,
            3);
        whoIs("what is loosed blows on to the south, and ends", toldBehind(acrossBlown(63, SOUTH, WEST), 17), 3, 1, 1,
            3);
        whoIs("in its PORT it stays, as the IMAGE has its PORT", toldBehind(from(6), 1), 3, 1, 1, 3);
        whoIs("what is WRECKED on its way stays", toldBehind(x -> {
            from(6).on(x);
            x.bring(0, 2);
            x.land(3, 1);
        }, 3), 3, 1, 1, 3);
    }

    private static void whoByDay() {
        whoIs("from HOUR 5 on, n 1: none by night", told(5, 1, 9), 1, 0, -1, 0);
        whoIs("from HOUR 5 on, n 2: ahead of HOUR 6", told(5, 1, 9), 2, 1, 1, 1);
        whoIs("from HOUR 17 on, n 3: ahead of HOUR 17 alone", told(17, 3, 11), 3, 1, 1, 1);
        whoIs("from HOUR 17 on, n 3: not ahead of HOUR 18", told(17, 2, 10), 3, 0, -1, 0);
        whoIs("from HOUR 18 on, n 12: all night", told(18, 1, 9), 12, 0, -1, 0);
        whoIs("from HOUR 18 on, n 13: ahead of HOUR 30", told(18, 1, 9), 13, 1, 1, 1);
        whoIs("from HOUR 9999 on, n 3: ahead of HOURS beyond it, till 10001", told(9999, 1, 9), 3, 1, 1, 1);
        whoIs("from HOUR 9999 on, n 4: HOUR 10002 is night", told(9999, 1, 9), 4, 0, -1, 0);
    }

    private static void whoByState() {
        whoIs("one that was loosed in the IMAGE is none", x -> {
            fleet(x, 1);
            x.hours(6);
            for (int knot = 0; knot < 3; knot++) {
                x.loose(0, knot);
            }
            x.image();
            x.sheet(0, 8, 1);
        }, 3, 0, -1, 1);
        whoIs("one that was loosed behind the IMAGE is one", x -> {
            told(6, 1, 9).on(x);
            x.loose(0, 1);
        }, 1, 1, 1, 1);
        whoIs("the SHIP is WRECKED in the IMAGE", x -> {
            x.ship(0, 63);
            x.land(1, 1);
            x.drift(0, 3);
            x.hours(6);
            x.image();
            x.sheet(0, 8, 1);
            x.put(0, 0, 1);
        }, 3, 0, -1, 1);
        whoIs("the SHIP is WRECKED behind two HOURS: not ahead of the third", x -> {
            x.ship(0, 63);
            x.land(2, 1);
            x.hours(6);
            x.drift(0, 3);
            x.image();
            x.sheet(0, 8, 1);
            x.put(0, 0, 2);
        }, 5, 3, 0, 3 * 2 + 1);
        whoIs("the SHIP is HOME: it may", x -> {
            x.ship(9, 9);
            x.hours(6);
            x.image();
            x.sheet(0, 8, 1);
            x.put(0, 0, 9);
        }, 5, 3, 0, 3 * 5 + 1);
        whoIs("SHIP 4, KNOT 2, the last of all", x -> {
            fleet(x, 5);
            x.tie(4, 2, 3, EAST);
            x.hours(6);
            x.image();
            x.sheet(0, 32, 5);
            for (int i = 0; i < 5; i++) {
                x.put(0, i, 8 * i + 1);
            }
        }, 1, 1, 42, 1);
    }

    /** SHEET 0 tells SHIP 0 a CELL to this WAY of CELL 0, SHIP 1 in CELL 63. */
    private static Run toldOfTwo(Run ahead, int way) {
        return x -> {
            ahead.on(x);
            x.image();
            x.sheet(0, 8, 2);
            x.put(0, 0, way == EAST ? 1 : 8);
            x.put(0, 1, 63);
        };
    }

    /** From CELL 0 of its row each SHIP goes a CELL in each of two HOURS; one is HOME behind the first. */
    private static void whoOfFive() {
        for (int ship = 0; ship < 5; ship++) {
            int s = ship;
            whoIs("of five SHIPS the one in its PORT, which stays, is SHIP " + s, x -> {
                for (int i = 0; i < 5; i++) {
                    x.ship(8 * i, i == s ? 8 * i + 1 : 63);
                }
                x.drift(0, 3);
                x.hours(1);
                for (int i = 0; i < 5; i++) {
                    x.bring(i, 8 * i);
                }
                x.image();
                x.sheet(0, 8, 5);
                for (int i = 0; i < 5; i++) {
                    x.put(0, i, 8 * i + (i == s ? 1 : 2));
                }
            }, 2, 0, -1, 1);
        }
        for (int i = 0; i < 25; i++) {
            int wrecked = i / 5;
            int other = i % 5;
            whoIs("of five SHIPS, SHIP " + wrecked + " WRECKED, a KNOT of SHIP " + other, x -> {
                wreckedOfFive(x, wrecked, other);
                x.image();
                x.sheet(0, 8, 5);
                for (int s = 0; s < 5; s++) {
                    x.put(0, s, s == wrecked ? 8 * s + 1 : 8 * s + 2);
                }
            }, 1, wrecked == other ? 0 : 1, wrecked == other ? -1 : 10 * other + 1, wrecked == other ? 0 : 1);
        }
        for (int i = 0; i < 5; i++) {
            int wrecked = i;
            whoIs("of five SHIPS, SHIP " + wrecked + " WRECKED behind the second of five HOURS", x -> {
                fleet(x, 5);
                x.land(8 * wrecked + 2, 1);
                x.hours(6);
                x.drift(0, 3);
                x.image();
                x.sheet(0, 8, 5);
                for (int s = 0; s < 5; s++) {
                    x.put(0, s, s == wrecked ? 8 * s + 2 : 8 * s + 5);
                }
            }, 5, 15, 0, 1 + 12 * 5 + 3 * 2);
        }
        for (int ship = 0; ship < 5; ship++) {
            int s = ship;
            whoIs("of five SHIPS one lies elsewhere: SHIP " + s, x -> {
                fleet(x, 5);
                x.hours(6);
                x.image();
                x.sheet(0, 8, 5);
                for (int i = 0; i < 5; i++) {
                    x.put(0, i, i == s ? 63 : 8 * i);
                }
            }, 3, 0, -1, 0);
        }
        for (int h = 0; h < 24; h++) {
            for (int way : new int[] {EAST, SOUTH}) {
                whoIs("with what blows in HOUR " + h + " to WAY " + way, toldOfTwo(blowsWith(h, way), way), h + 1, 1, 2,
                    1);
                whoIs("what blows in HOUR " + h + " to WAY " + way + " brings it", toldOfTwo(blowsIn(h, 3, way), way),
                    h + 1, 5, 0, 1 + 5 * Math.min(12, h + 1));
            }
        }
        whoIs("it is the IMAGE's TEXT of a TOLD one", x -> {
            text(x, 0, "3");
            fleet(x, 2);
            x.tie(0, 1, 60, EAST);
            x.hours(6);
            x.image();
            x.sheet(0, 8, 2);
            x.put(0, 0, 1);
            x.put(0, 1, 9);
            text(x, 0, "6");
        }, 1, 1, 1, 1);
        whoIs("the IMAGE has no TEXT: a TOLD one as KNOT", x -> {
            fleet(x, 2);
            x.tie(0, 1, 63, EAST);
            x.hours(6);
            x.image();
            x.sheet(0, 8, 2);
            x.put(0, 0, 1);
            x.put(0, 1, 9);
            text(x, 0, "6");
        }, 1, 1, 1, 1);
    }

    private static void whoLies() {
        whoIs("with none at all, too: one way more", told(6, 0, 8), 1, 5, 0, 6);
        whoIs("the first lies elsewhere", told(6, 2, 9), 1, 0, -1, 0);
        whoIs("the last lies elsewhere", told(6, 1, 8), 1, 0, -1, 0);
        whoIs("a number that is no CELL", told(6, 1, 64), 1, 0, -1, 0);
        whoIs("a number of 255", told(6, 255, 9), 1, 0, -1, 0);
        whoIs("a number below 0", x -> {
            told(6, 1, 9).on(x);
            x.sheet(0, 32, 2);
            x.put(0, 0, 1);
            x.put(0, 1, -1);
        }, 1, 0, -1, 0);
        for (int more : new int[] {64, 128, 256, 65536, LEAST}) {
            whoIs("a number that is " + more + " more than the CELL", x -> {
                told(6, 1, 9).on(x);
                x.sheet(0, 32, 2);
                x.put(0, 0, 1 + more);
                x.put(0, 1, 9);
            }, 1, 0, -1, 0);
        }
        whoIs("it is the IMAGE's LAND, DRIFT, HOUR, SHIPS and KNOTS, not those now", x -> {
            told(6, 1, 9).on(x);
            x.land(1, 1);
            x.drift(0, 9);
            x.bring(0, 40);
            x.tie(0, 1, 0, 0);
            x.ship(50, 51);
            x.hours(20);
        }, 1, 1, 1, 1);
        whoIs("it is the latest IMAGE", x -> {
            told(6, 1, 9).on(x);
            x.tie(0, 1, 0, 0);
            x.tie(1, 2, 3, EAST);
            x.image();
        }, 1, 1, 12, 1);
    }

    private static void race() {
        promise(23);
        Run four = x -> {
            x.ship(0, 3);
            x.ship(8, 9);
            x.ship(40, 40);
            x.ship(63, 48);
            x.hours(6);
            x.tie(0, 0, 3, EAST);
            x.tie(1, 0, 3, EAST);
        };
        onlyAsks("n 1, the least: one of them HOME by it", 1, four, x -> x.race(1, 0, 1));
        onlyAsks("n 10, the most", 2, four, x -> x.race(1, 0, 10));
        onlyAsks("below 0", -2, four, x -> x.race(0, 1, 10));
        onlyAsks("n 3, just so", 2, four, x -> x.race(1, 0, 3));
        onlyAsks("n 2: the one that isn't HOME by n has n and 1", 2, four, x -> x.race(1, 0, 2));
        onlyAsks("n 10 and 1 of one that is never HOME", 10, four, x -> x.race(1, 3, 10));
        onlyAsks("below 0, of one that is never HOME", -10, four, x -> x.race(3, 1, 10));
        onlyAsks("the most: a HOME one and one that never is", 11, four, x -> x.race(2, 3, 10));
        onlyAsks("the least: one that never is HOME and a HOME one", -11, four, x -> x.race(3, 2, 10));
        onlyAsks("neither is HOME by n: 0", 0, four, x -> x.race(0, 3, 2));
        onlyAsks("both are HOME: 0", 0, x -> {
            x.ship(9, 9);
            x.ship(8, 8);
        }, x -> x.race(1, 0, 1));
        onlyAsks("each alone: no KNOT of the other one is loosed", -10, x -> {
            x.ship(0, 1);
            x.ship(8, 9);
            x.hours(6);
            x.tie(1, 0, 3, EAST);
        }, x -> x.race(0, 1, 10));
        refused("one twice", BEYOND, four, x -> x.race(1, 1, 10));
        refused("SHIP 0 twice", BEYOND, four, x -> x.race(0, 0, 10));
        beyond("n", 1, 10, four, (x, v) -> x.race(0, 1, v));
        beyond("the first of four is", 0, 3, four, (x, v) -> x.race(v, 1, 10));
        beyond("the other of four is", 0, 3, four, (x, v) -> x.race(1, v, 10));
        refused("no SHIPS", BEYOND, Edges::nothing, x -> x.race(0, 1, 10));
        refused("one SHIP alone", BEYOND, x -> x.ship(9, 9), x -> x.race(0, 1, 10));
    }

    public static void main(String[] args) {
        then();
        home();
        soonest();
        bestKnot();
        who();
        race();
        end();
    }
}
