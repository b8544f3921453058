/** Promises 1 to 11, each boundary case by itself: a new object, the sea, ships, knots. */
public final class EdgeSeaTest extends Edges {
    private static void aNewObject() {
        promise(1);
        edge("no SHIPS", x -> {
            due(x.count(0), 0);
            due(x.shipIs(0, 0), BEYOND);
        });
        edge("every CELL is water", x -> {
            for (int cell = 0; cell < 64; cell++) {
                due("land(" + cell + ", 0)", x.land(cell, 0), 0);
            }
        });
        edge("HOUR is 0", x -> due(x.count(1), 0));
        edge("HOUR 0 is night", x -> due(x.count(2), 0));
        edge("none is HOME", x -> due(x.count(3), 0));
        edge("none is WRECKED", x -> due(x.count(4), 0));
        edge("no KNOT is TIED", x -> due(x.count(5), 0));
        edge("THE TAPE is empty", x -> {
            due(x.count(6), 0);
            due(x.text(0), -10);
        });
        edge("no number waits", x -> {
            due(x.count(7), 0);
            due(x.check(), 0);
        });
        edge("THE TRACE is empty", x -> {
            due(x.count(8), 0);
            due(x.body(0), NONE);
        });
        edge("z is 1", x -> due(x.count(9), 1));
        edge("DRIFT is 0 to the EAST", x -> {
            due(x.count(10), 0);
            due(x.wind(0), 0);
        });
        edge("DRIFT is 0 to the SOUTH", x -> {
            due(x.count(11), 0);
            due(x.wind(1), 0);
        });
        edge("no TEXT of USE 0", x -> due(x.untell(0), 0));
        edge("no TEXT of USE 1", x -> due(x.untell(1), 0));
        for (int sheet = 0; sheet < 4; sheet++) {
            int s = sheet;
            edge("SHEET " + s + " is missing", x -> due(x.lands(s), NONE));
        }
        edge("no IMAGE", x -> due(x.restore(), NONE));
        edge("no IMAGE was made yet", x -> due(x.image(), 1));
        for (int k = 1; k <= 6; k++) {
            int error = k;
            edge("told(" + k + ") is 0", x -> due(x.told(error), 0));
        }
        edge("another one has nothing of the first", x -> {
            some(x);
            KnottedWinds y = new KnottedWinds();
            int[] counts = {0, 0, 0, 0, 0, 0, 0, 0, 0, 1, 0, 0};
            for (int what = 0; what < 12; what++) {
                due("count(" + what + ")", y.count(what), counts[what]);
            }
            due("land", y.land(27, 0), 0);
            due("restore", y.restore(), NONE);
        });
        edge("the 512th call is answered, as the first", x -> {
            for (int i = 1; i <= 511; i++) {
                due("told(0)", x.told(0), BEYOND);
            }
            due(x.told(1), 511);
        });
        edge("the 512th IMAGE", x -> {
            for (int i = 1; i <= 512; i++) {
                due("image()", x.image(), i);
            }
        });
    }

    private static void land() {
        promise(2);
        edge("CELL 0, the first", x -> {
            due(x.land(0, 1), 0);
            due(x.land(0, 0), 1);
        });
        edge("CELL 63, the last", x -> {
            due(x.land(63, 1), 0);
            due(x.land(63, 0), 1);
        });
        beyond("CELL", 0, 63, (x, v) -> x.land(v, 1));
        edge("v 0, water again", x -> {
            x.land(5, 1);
            due(x.land(5, 0), 1);
            due(x.land(5, 0), 0);
        });
        edge("v 1, LAND already", x -> {
            x.land(5, 1);
            due(x.land(5, 1), 1);
            due(x.land(5, 1), 1);
        });
        beyond("v", 0, 1, (x, v) -> x.land(27, v));
        edge("no other CELL becomes LAND", x -> {
            x.land(9, 1);
            for (int cell = 0; cell < 64; cell++) {
                due("land(" + cell + ", 0)", x.land(cell, 0), cell == 9 ? 1 : 0);
            }
        });
        edge("LAND under a SHIP matters not", x -> {
            x.ship(0, 63);
            x.land(0, 1);
            x.hours(1);
            due(x.shipIs(0, 2), 0);
        });
        edge("a SHIP goes from LAND to water", x -> {
            x.ship(0, 63);
            x.land(0, 1);
            x.drift(0, 3);
            x.hours(1);
            due(x.shipIs(0, 2), 0);
            due(x.shipIs(0, 0), 1);
        });
        edge("what is water again wrecks none", x -> {
            x.ship(0, 63);
            x.land(1, 1);
            x.land(1, 0);
            x.drift(0, 3);
            x.hours(2);
            due(x.shipIs(0, 0), 2);
        });
        edge("what is water again leaves a wreck WRECKED", x -> {
            x.ship(0, 63);
            x.land(1, 1);
            x.drift(0, 3);
            x.hours(1);
            x.land(1, 0);
            x.hours(1);
            due(x.shipIs(0, 2), 1);
            due(x.shipIs(0, 0), 1);
        });
    }

    private static void drift() {
        promise(3);
        edge("what 0 is to the EAST", x -> {
            x.drift(0, 4);
            due(x.wind(0), 4);
            due(x.wind(1), 0);
        });
        edge("what 1 is to the SOUTH", x -> {
            x.drift(1, 4);
            due(x.wind(0), 0);
            due(x.wind(1), 4);
        });
        beyond("what", 0, 1, (x, v) -> x.drift(v, 4));
        for (int what = 0; what < 2; what++) {
            int w = what;
            edge("v -9 of " + w + ", the least", x -> {
                due(x.drift(w, -9), 0);
                due(x.drift(w, 0), -9);
            });
            edge("v 9 of " + w + ", the most", x -> {
                due(x.drift(w, 9), 0);
                due(x.drift(w, 0), 9);
            });
            beyond("v of " + w + ":", -9, 9, (x, v) -> x.drift(w, v));
        }
        edge("what it was, where it stays the same", x -> {
            x.drift(0, -7);
            due(x.drift(0, -7), -7);
            due(x.drift(0, -7), -7);
        });
    }

    private static void ship() {
        promise(4);
        edge("the first is number 0", x -> due(x.ship(1, 2), 0));
        edge("the fifth is number 4, the last", x -> {
            for (int i = 0; i < 5; i++) {
                due(x.ship(i, 63), i);
            }
            due(x.count(0), 5);
            due(x.shipIs(4, 0), 4);
        });
        refused("a sixth", FULL, x -> fleet(x, 5), x -> x.ship(1, 2));
        edge("a seventh is refused as the sixth", x -> {
            fleet(x, 5);
            due(x.ship(1, 2), FULL);
            due(x.ship(1, 2), FULL);
            due(x.count(0), 5);
        });
        refused("BEYOND is asked ahead of FULL", BEYOND, x -> fleet(x, 5), x -> x.ship(64, 2));
        edge("CELL 0, the first", x -> {
            due(x.ship(0, 5), 0);
            due(x.shipIs(0, 0), 0);
        });
        edge("CELL 63, the last", x -> {
            due(x.ship(63, 5), 0);
            due(x.shipIs(0, 0), 63);
        });
        beyond("CELL", 0, 63, (x, v) -> x.ship(v, 5));
        edge("PORT 0, the first", x -> {
            due(x.ship(5, 0), 0);
            due(x.shipIs(0, 1), 0);
        });
        edge("PORT 63, the last", x -> {
            due(x.ship(5, 63), 0);
            due(x.shipIs(0, 1), 63);
        });
        beyond("PORT", 0, 63, (x, v) -> x.ship(5, v));
        edge("SAILING at first", x -> {
            x.ship(5, 6);
            due(x.shipIs(0, 2), 0);
        });
        edge("HOME at once, if it begins in its PORT", x -> {
            x.ship(5, 5);
            due(x.shipIs(0, 2), 2);
            due(x.count(3), 1);
        });
        edge("HOME at once in CELL 0", x -> {
            x.ship(0, 0);
            due(x.shipIs(0, 2), 2);
        });
        edge("SAILING, if it begins on LAND", x -> {
            x.land(5, 1);
            x.ship(5, 6);
            due(x.shipIs(0, 2), 0);
        });
        edge("HOME, if it begins in its PORT on LAND", x -> {
            x.land(5, 1);
            x.ship(5, 5);
            due(x.shipIs(0, 2), 2);
        });
        for (int knot = 0; knot < 3; knot++) {
            int k = knot;
            edge("KNOT " + k + " as at first", x -> {
                x.ship(5, 6);
                int[] facts = {0, 0, 0, -1, 0, 0};
                for (int what = 0; what < 6; what++) {
                    due("knotIs(0, " + k + ", " + what + ")", x.knotIs(0, k, what), facts[what]);
                }
            });
        }
        edge("two in one CELL, with one PORT", x -> {
            x.ship(5, 6);
            due(x.ship(5, 6), 1);
            due(x.shipIs(1, 0), 5);
            due(x.shipIs(1, 1), 6);
        });
    }

    private static void shipIs() {
        promise(5);
        edge("SHIP 0, the first, and SHIP 4, the last of five", x -> {
            fleet(x, 5);
            due(x.shipIs(0, 0), 0);
            due(x.shipIs(4, 0), 32);
        });
        refused("SHIP -1", BEYOND, x -> x.shipIs(-1, 0));
        refused("SHIP 3 of three", BEYOND, x -> x.shipIs(3, 0));
        refused("SHIP 5 of five", BEYOND, x -> fleet(x, 5), x -> x.shipIs(5, 0));
        refused("SHIP 0 of none", BEYOND, Edges::nothing, x -> x.shipIs(0, 0));
        refused("the least SHIP there is", BEYOND, x -> x.shipIs(LEAST, 0));
        refused("the most SHIP there is", BEYOND, x -> x.shipIs(MOST, 0));
        onlyAsks("what 0, the first: CELL", 1, Edges::some, x -> x.shipIs(0, 0));
        onlyAsks("what 1: PORT", 63, Edges::some, x -> x.shipIs(0, 1));
        onlyAsks("what 2: 0 SAILING", 0, Edges::some, x -> x.shipIs(0, 2));
        onlyAsks("what 2: 1 WRECKED", 1, Edges::some, x -> x.shipIs(1, 2));
        onlyAsks("what 2: 2 HOME", 2, Edges::some, x -> x.shipIs(2, 2));
        onlyAsks("what 3: TIED ones", 2, Edges::some, x -> x.shipIs(0, 3));
        onlyAsks("what 4, the last: WORTH", 5 + 9 * 2, Edges::some, x -> x.shipIs(0, 4));
        beyond("what", 0, 4, (x, v) -> x.shipIs(0, v));
        edge("all three TIED", x -> {
            x.ship(5, 6);
            due(x.shipIs(0, 3), 3);
        });
        edge("none TIED: WORTH is 0", x -> {
            lone(x);
            text(x, 1, "7");
            for (int knot = 0; knot < 3; knot++) {
                x.tie(0, knot, 9, EAST);
                x.loose(0, knot);
            }
            due(x.shipIs(0, 3), 0);
            due(x.shipIs(0, 4), 0);
        });
        edge("WORTH is not held within 999: three times 999", x -> {
            x.ship(5, 6);
            text(x, 1, "9999");
            due(x.shipIs(0, 4), 2997);
        });
        edge("WORTH is of PRICES that are held above 0 each", x -> {
            x.ship(5, 6);
            x.tie(0, 1, 9, 0);
            text(x, 1, "m-5");
            due(x.shipIs(0, 4), 4);
        });
        edge("WORTH is of the SHIP's own KNOTS", x -> {
            fleet(x, 2);
            x.tie(0, 2, 9, 0);
            x.tie(1, 0, 1, 0);
            due(x.shipIs(0, 4), 27);
            due(x.shipIs(1, 4), 3);
        });
    }

    private static void bring() {
        promise(6);
        edge("CELL 0, the first", x -> {
            x.ship(5, 6);
            due(x.bring(0, 0), 5);
            due(x.shipIs(0, 0), 0);
        });
        edge("CELL 63, the last", x -> {
            x.ship(5, 6);
            due(x.bring(0, 63), 5);
            due(x.shipIs(0, 0), 63);
        });
        beyond("CELL", 0, 63, (x, v) -> x.bring(0, v));
        beyondShips((x, v) -> x.bring(v, 5));
        edge("SHIP 4, the last of five", x -> {
            fleet(x, 5);
            due(x.bring(4, 1), 32);
            due(x.shipIs(4, 0), 1);
            due(x.shipIs(3, 0), 24);
        });
        edge("to where it is", x -> {
            x.ship(5, 6);
            due(x.bring(0, 5), 5);
            due(x.shipIs(0, 0), 5);
            due(x.shipIs(0, 2), 0);
        });
        edge("HOME in its PORT", x -> {
            x.ship(5, 6);
            due(x.bring(0, 6), 5);
            due(x.shipIs(0, 2), 2);
        });
        edge("HOME in its PORT on LAND", x -> {
            x.ship(5, 6);
            x.land(6, 1);
            x.bring(0, 6);
            due(x.shipIs(0, 2), 2);
        });
        edge("SAILING away from its PORT", x -> {
            x.ship(6, 6);
            due(x.bring(0, 5), 6);
            due(x.shipIs(0, 2), 0);
        });
        edge("SAILING onto LAND", x -> {
            x.ship(5, 6);
            x.land(7, 1);
            x.bring(0, 7);
            due(x.shipIs(0, 2), 0);
        });
        edge("a WRECKED one is SAILING then", x -> {
            some(x);
            due(x.shipIs(1, 2), 1);
            due(x.bring(1, 45), 27);
            due(x.shipIs(1, 2), 0);
        });
        edge("a WRECKED one is SAILING then where it lies", x -> {
            some(x);
            due(x.bring(1, 27), 27);
            due(x.shipIs(1, 2), 0);
        });
        edge("a WRECKED one is HOME in its PORT", x -> {
            some(x);
            due(x.bring(1, 31), 27);
            due(x.shipIs(1, 2), 2);
        });
        edge("another one's PORT is none of its own", x -> {
            some(x);
            x.bring(0, 31);
            due(x.shipIs(0, 2), 0);
        });
        edge("its KNOTS stay as they are", x -> {
            some(x);
            x.bring(0, 30);
            due(x.knotIs(0, 0, 3), 7);
            due(x.shipIs(0, 3), 2);
        });
    }

    private static void tie() {
        promise(7);
        edge("KNOT 0, the first, and KNOT 2, the last", x -> {
            x.ship(5, 6);
            due(x.tie(0, 0, 11, 1), 0);
            due(x.tie(0, 2, 22, 2), 0);
            due(x.tie(0, 0, 0, 0), 111);
            due(x.tie(0, 1, 0, 0), 0);
            due(x.tie(0, 2, 0, 0), 222);
        });
        beyond("KNOT", 0, 2, (x, v) -> x.tie(1, v, 11, 1));
        beyondShips((x, v) -> x.tie(v, 0, 11, 1));
        edge("SHIP 4, KNOT 2, the last of all", x -> {
            fleet(x, 5);
            due(x.tie(4, 2, 69, 3), 0);
            due(x.tie(4, 2, 0, 0), 369);
        });
        edge("km 0, the least", x -> {
            x.ship(5, 6);
            x.tie(0, 0, 69, 0);
            due(x.tie(0, 0, 0, 0), 69);
            due(x.tie(0, 0, 0, 0), 0);
        });
        edge("km 69, the most", x -> {
            x.ship(5, 6);
            due(x.tie(0, 0, 69, 0), 0);
            due(x.knotIs(0, 0, 0), 6);
            due(x.knotIs(0, 0, 1), 9);
        });
        edge("km 9 is m 9, km 10 is KIND 1", x -> {
            x.ship(5, 6);
            x.tie(0, 0, 9, 0);
            x.tie(0, 1, 10, 0);
            due(x.knotIs(0, 0, 0), 0);
            due(x.knotIs(0, 0, 1), 9);
            due(x.knotIs(0, 1, 0), 1);
            due(x.knotIs(0, 1, 1), 0);
        });
        beyond("km", 0, 69, (x, v) -> x.tie(0, 0, v, 1));
        edge("WAY 0, the least", x -> {
            x.ship(5, 6);
            x.tie(0, 0, 5, 3);
            due(x.tie(0, 0, 5, 0), 305);
            due(x.tie(0, 0, 5, 0), 5);
        });
        edge("WAY 3, the most", x -> {
            x.ship(5, 6);
            due(x.tie(0, 0, 5, 3), 0);
            due(x.knotIs(0, 0, 2), 3);
        });
        beyond("WAY", 0, 3, (x, v) -> x.tie(0, 0, 11, v));
        edge("a loosed one is TIED then, and blows no more", x -> {
            lone(x);
            x.tie(0, 0, 9, EAST);
            x.loose(0, 0);
            due(x.wind(0), 9);
            due(x.tie(0, 0, 9, EAST), 109);
            due(x.knotIs(0, 0, 3), -1);
            due(x.wind(0), 0);
        });
        edge("a loosed one may be LOOSED again then", x -> {
            lone(x);
            x.loose(0, 0);
            x.tie(0, 0, 4, EAST);
            due(x.loose(0, 0), 4);
        });
        edge("by night, too", x -> {
            x.ship(5, 6);
            due(x.count(2), 0);
            due(x.tie(0, 0, 4, 1), 0);
            due(x.knotIs(0, 0, 1), 4);
        });
        edge("of a WRECKED one, too", x -> {
            some(x);
            due(x.tie(1, 2, 4, 1), 317);
            due(x.knotIs(1, 2, 1), 4);
        });
    }

    /** FORCE of a KNOT so many HOURS behind that in which it was loosed, BLOWS being this TEXT (none: ""). */
    private static int force(int km, int h, String blows) {
        KnottedWinds x = new KnottedWinds();
        x.ship(27, 63);
        x.hours(6);
        x.tie(0, 1, km, WEST);
        x.loose(0, 1);
        text(x, 0, blows);
        if (h > 0) {
            x.hours(h);
        }
        return x.knotIs(0, 1, 4);
    }

    private static void forceIs(String of, int km, int h, int want) {
        edge(of, x -> due(force(km, h, ""), want));
    }

    private static void blowsGives(String of, String text, int h, int want) {
        edge(of, x -> due(force(64, h, text), want));
    }

    private static void forces() {
        forceIs("KNOT: m in its HOUR", 9, 0, 9);
        forceIs("KNOT: m, h 2", 9, 2, 9);
        forceIs("KNOT: 0, h 3", 9, 3, 0);
        forceIs("KNOT: m 0, the least", 0, 0, 0);
        forceIs("KNOT: m 1", 1, 2, 1);
        forceIs("LEFT: 0 less m in its HOUR", 19, 0, -9);
        forceIs("LEFT: 0 less m, h 2", 19, 2, -9);
        forceIs("LEFT: 0, h 3", 19, 3, 0);
        forceIs("SLOW: half of m in its HOUR, cut", 29, 0, 4);
        forceIs("SLOW: half of m 1 is 0", 21, 0, 0);
        forceIs("SLOW: half of m 2 is 1", 22, 0, 1);
        forceIs("SLOW: half of m, h 5", 29, 5, 4);
        forceIs("SLOW: 0, h 6", 29, 6, 0);
        forceIs("EMPTY: 0 in its HOUR", 39, 0, 0);
        forceIs("EMPTY: 0, h 2", 39, 2, 0);
        forceIs("JOINED: twice in its HOUR", 49, 0, -18);
        forceIs("JOINED: once, h 1", 49, 1, -9);
        forceIs("JOINED: once, h 2", 49, 2, -9);
        forceIs("JOINED: 0, h 3", 49, 3, 0);
        forceIs("LONG: half of m in its HOUR, cut", 59, 0, 4);
        forceIs("LONG: half of m, h 6", 59, 6, 4);
        forceIs("LONG: half of m, h 11", 59, 11, 4);
        forceIs("LONG: 0, h 12", 59, 12, 0);
        forceIs("TOLD without a TEXT: m, h 0", 69, 0, 9);
        forceIs("TOLD without a TEXT: m, h 2", 69, 2, 9);
        forceIs("TOLD without a TEXT: 0, h 3", 69, 3, 0);
        blowsGives("TOLD: 20, the most", "20", 0, 20);
        blowsGives("TOLD: 21 is held", "21", 0, 20);
        blowsGives("TOLD: 19 stands", "19", 0, 19);
        blowsGives("TOLD: -20, the least", "0-20", 0, -20);
        blowsGives("TOLD: -21 is held", "0-21", 0, -20);
        blowsGives("TOLD: -19 stands", "0-19", 0, -19);
        blowsGives("TOLD: the most int is held", "256*256*256*128-1", 0, 20);
        blowsGives("TOLD: the least int is held", "256*256*256*128", 0, -20);
        blowsGives("TOLD: h is 0 in its HOUR", "h+7", 0, 7);
        blowsGives("TOLD: h is 3 three HOURS on", "h+7", 3, 10);
        blowsGives("TOLD: it blows 48 HOURS on, too", "h=48", 48, 1);
        blowsGives("TOLD: w is its WAY", "w", 0, 3);
        blowsGives("TOLD: m is its m", "m", 5, 4);
    }

    private static void priceIs(String of, int km, String text, int want) {
        edge(of, x -> {
            x.ship(5, 6);
            x.tie(0, 1, km, WEST);
            text(x, 1, text);
            due(x.knotIs(0, 1, 5), want);
        });
    }

    private static void prices() {
        priceIs("PRICE without a TEXT: m 0, the least", 60, "", 0);
        priceIs("PRICE without a TEXT: m 9 by all three, the most", 69, "", 27);
        priceIs("PRICE 0, the least", 5, "0", 0);
        priceIs("PRICE -1 is held", 5, "0-1", 0);
        priceIs("PRICE 1 stands", 5, "1", 1);
        priceIs("PRICE 999, the most", 5, "999", 999);
        priceIs("PRICE 1000 is held", 5, "1000", 999);
        priceIs("PRICE 998 stands", 5, "998", 998);
        priceIs("PRICE: the most int is held", 5, "256*256*256*128-1", 999);
        priceIs("PRICE: the least int is held", 5, "256*256*256*128", 0);
        priceIs("PRICE: k is 0 of a KNOT", 9, "k", 0);
        priceIs("PRICE: k is 6 of a TOLD one", 60, "k", 6);
        priceIs("PRICE: m", 58, "m", 8);
        priceIs("PRICE: n is 3 of all three", 0, "n", 3);
        edge("PRICE: n is 1 of the last", x -> {
            lone(x);
            x.tie(0, 1, 9, WEST);
            x.loose(0, 0);
            x.loose(0, 2);
            text(x, 1, "n*10");
            due(x.knotIs(0, 1, 5), 10);
        });
        edge("PRICE without a TEXT: m by 1 of the last", x -> {
            lone(x);
            x.tie(0, 1, 9, WEST);
            x.loose(0, 0);
            x.loose(0, 2);
            due(x.knotIs(0, 1, 5), 9);
        });
        edge("PRICE of a loosed one is 0, whatever the TEXT is", x -> {
            lone(x);
            x.loose(0, 1);
            text(x, 1, "77");
            due(x.knotIs(0, 1, 5), 0);
        });
        edge("PRICE: n is of that SHIP alone", x -> {
            fleet(x, 2);
            x.hours(6);
            x.loose(0, 0);
            text(x, 1, "n");
            due(x.knotIs(0, 1, 5), 2);
            due(x.knotIs(1, 1, 5), 3);
        });
    }

    private static void knotIs() {
        promise(8);
        onlyAsks("what 0, the first: KIND", 6, Edges::some, x -> x.knotIs(0, 0, 0));
        onlyAsks("what 1: m", 3, Edges::some, x -> x.knotIs(0, 0, 1));
        onlyAsks("what 2: WAY", 1, Edges::some, x -> x.knotIs(0, 0, 2));
        onlyAsks("what 3: the HOUR in which it was loosed", 7, Edges::some, x -> x.knotIs(0, 0, 3));
        onlyAsks("what 3: -1, TIED", -1, Edges::some, x -> x.knotIs(0, 1, 3));
        onlyAsks("what 4: FORCE now", 3, Edges::some, x -> x.knotIs(0, 0, 4));
        onlyAsks("what 4: 0, TIED", 0, Edges::some, x -> x.knotIs(0, 1, 4));
        onlyAsks("what 5, the last: PRICE", 5 + 9 * 2, Edges::some, x -> x.knotIs(0, 1, 5));
        onlyAsks("what 5: 0, loosed", 0, Edges::some, x -> x.knotIs(0, 0, 5));
        beyond("what", 0, 5, (x, v) -> x.knotIs(0, 0, v));
        beyond("KNOT", 0, 2, (x, v) -> x.knotIs(1, v, 0));
        beyondShips((x, v) -> x.knotIs(v, 0, 0));
        edge("HOUR 9999, the last in which one may be loosed", x -> {
            x.ship(5, 6);
            till(x, 9999);
            x.loose(0, 0);
            due(x.knotIs(0, 0, 3), 9999);
        });
        for (int i = 0; i < 15; i++) {
            int s = i / 3;
            int k = i % 3;
            String of = "of five SHIPS, SHIP " + s + " KNOT " + k + ": ";
            onlyAsks(of + "KIND", kindOf(s, k), Edges::five, x -> x.knotIs(s, k, 0));
            onlyAsks(of + "m", mOf(s, k), Edges::five, x -> x.knotIs(s, k, 1));
            onlyAsks(of + "WAY", wayOf(s, k), Edges::five, x -> x.knotIs(s, k, 2));
            onlyAsks(of + "PRICE", 3 * mOf(s, k), Edges::five, x -> x.knotIs(s, k, 5));
            edge(of + "loosed alone", x -> {
                five(x);
                x.hours(6);
                x.loose(s, k);
                for (int other = 0; other < 15; other++) {
                    due("HOUR of " + other, x.knotIs(other / 3, other % 3, 3), other == 3 * s + k ? 6 : -1);
                }
            });
        }
        forces();
        prices();
    }

    private static void as() {
        promise(9);
        int[][] under = {{0}, {0, 1}, {0, 2}, {0, 3}, {0, 1, 4}, {0, 2, 5}, {0, 6}};
        for (int kind = 0; kind < 7; kind++) {
            for (int above = 0; above < 7; above++) {
                int km = 10 * kind + 7;
                int asked = above;
                boolean is = false;
                for (int u : under[kind]) {
                    is |= u == above;
                }
                if (is) {
                    edge("KIND " + kind + " is one of KIND " + above, x -> {
                        x.ship(5, 6);
                        x.tie(0, 1, km, 0);
                        due(x.as(0, 1, asked), 7);
                    });
                } else {
                    refused("KIND " + kind + " is none of KIND " + above, KIND,
                        both(Edges::some, x -> x.tie(1, 1, km, 0)), x -> x.as(1, 1, asked));
                }
            }
        }
        for (int i = 0; i < 15; i++) {
            int s = i / 3;
            int k = i % 3;
            onlyAsks("of five SHIPS, SHIP " + s + " KNOT " + k, mOf(s, k), Edges::five, x -> x.as(s, k, 0));
        }
        onlyAsks("a loosed one, too", 3, Edges::some, x -> x.as(0, 0, 6));
        beyond("KIND", 0, 6, (x, v) -> x.as(0, 0, v));
        beyond("KNOT", 0, 2, (x, v) -> x.as(1, v, 0));
        beyondShips((x, v) -> x.as(v, 0, 0));
    }

    private static void dayBegins(int hour, boolean is) {
        if (is) {
            edge("it is DAY in HOUR " + hour, x -> {
                x.ship(0, 63);
                x.tie(0, 0, 9, EAST);
                till(x, hour);
                due(x.loose(0, 0), 9);
                due(x.knotIs(0, 0, 3), hour);
            });
        } else {
            refused("it is night in HOUR " + hour, STATE, x -> {
                x.ship(0, 63);
                till(x, hour);
            }, x -> x.loose(0, 0));
        }
    }

    private static void loose() {
        promise(10);
        dayBegins(0, false);
        dayBegins(5, false);
        dayBegins(6, true);
        dayBegins(17, true);
        dayBegins(18, false);
        dayBegins(23, false);
        dayBegins(24, false);
        dayBegins(29, false);
        dayBegins(30, true);
        dayBegins(41, true);
        dayBegins(42, false);
        dayBegins(9989, false);
        dayBegins(9990, true);
        dayBegins(9999, true);
        refused("it is loosed", STATE, x -> x.loose(0, 0));
        refused("it was loosed in this HOUR", STATE, both(Edges::some, x -> x.loose(0, 2)),
            x -> x.loose(0, 2));
        refused("it was loosed, and blows no more", STATE, both(Edges::lone, x -> {
            x.loose(0, 0);
            x.hours(8);
        }), x -> x.loose(0, 0));
        refused("the SHIP is WRECKED", STATE, x -> x.loose(1, 2));
        edge("the SHIP is HOME", x -> {
            some(x);
            x.tie(2, 1, 5, EAST);
            due(x.loose(2, 1), 5);
        });
        edge("the SHIP was WRECKED, and was brought away", x -> {
            some(x);
            x.bring(1, 40);
            due(x.loose(1, 2), -7);
        });
        edge("KNOT 0, the first, and KNOT 2, the last", x -> {
            lone(x);
            x.tie(0, 0, 4, EAST);
            x.tie(0, 2, 5, EAST);
            due(x.loose(0, 0), 4);
            due(x.loose(0, 2), 5);
            due(x.knotIs(0, 1, 3), -1);
        });
        edge("SHIP 4, KNOT 2, the last of all", x -> {
            fleet(x, 5);
            x.hours(6);
            x.tie(4, 2, 9, EAST);
            due(x.loose(4, 2), 9);
            due(x.count(5), 14);
        });
        beyond("KNOT", 0, 2, (x, v) -> x.loose(0, v));
        beyondShips((x, v) -> x.loose(v, 0));
        refused("BEYOND is asked ahead of STATE", BEYOND, x -> x.ship(0, 63), x -> x.loose(0, 3));
        looseAnswers();
    }

    private static void looseAnswers() {
        int[] forces = {9, -9, 4, 0, -18, 4, 9};
        for (int kind = 0; kind < 7; kind++) {
            int km = 10 * kind + 9;
            int want = forces[kind];
            edge("FORCE in this HOUR of KIND " + kind, x -> {
                lone(x);
                x.tie(0, 0, km, EAST);
                due(x.loose(0, 0), want);
                due(x.wind(0), want);
            });
        }
        edge("FORCE in this HOUR by BLOWS, held", x -> {
            lone(x);
            text(x, 0, "h*9+30");
            x.tie(0, 0, 61, EAST);
            due(x.loose(0, 0), 20);
        });
        edge("it blows from this HOUR on", x -> {
            lone(x);
            x.tie(0, 0, 3, EAST);
            x.loose(0, 0);
            x.hours(1);
            due(x.shipIs(0, 0), 1);
            x.hours(2);
            due(x.shipIs(0, 0), 3);
            x.hours(1);
            due(x.shipIs(0, 0), 3);
        });
    }

    private static void windIs(String of, int km, int way, int axis, int want) {
        edge(of, x -> {
            lone(x);
            x.tie(0, 0, km, way);
            x.loose(0, 0);
            due("wind(" + axis + ")", x.wind(axis), want);
            due("wind(" + (1 - axis) + ")", x.wind(1 - axis), 0);
        });
    }

    private static void wind() {
        promise(11);
        windIs("to the north, WAY 0", 5, NORTH, 1, -5);
        windIs("to the east, WAY 1", 5, EAST, 0, 5);
        windIs("to the south, WAY 2", 5, SOUTH, 1, 5);
        windIs("to the west, WAY 3", 5, WEST, 0, -5);
        windIs("below 0 to the north", 15, NORTH, 1, 5);
        windIs("below 0 to the east", 15, EAST, 0, -5);
        windIs("below 0 to the south", 15, SOUTH, 1, -5);
        windIs("below 0 to the west", 15, WEST, 0, 5);
        edge("a TIED one adds nothing", x -> {
            lone(x);
            x.tie(0, 0, 9, EAST);
            due(x.wind(0), 0);
        });
        edge("no SHIPS: DRIFT alone", x -> {
            x.drift(0, 9);
            x.drift(1, -9);
            due(x.wind(0), 9);
            due(x.wind(1), -9);
        });
        edge("all fifteen together to the east, and DRIFT", x -> {
            allLoosed(x, 9, EAST);
            x.drift(0, 9);
            due(x.wind(0), 144);
        });
        edge("all fifteen JOINED ones together to the south, and DRIFT", x -> {
            allLoosed(x, 49, SOUTH);
            x.drift(1, -9);
            due(x.wind(1), -279);
        });
        edge("all fifteen TOLD ones together, each held by itself", x -> {
            text(x, 0, "9999");
            allLoosed(x, 60, NORTH);
            due(x.wind(1), -300);
        });
        edge("those of HOME and WRECKED SHIPS blow, too", x -> {
            x.ship(9, 9);
            x.ship(16, 63);
            x.land(17, 1);
            x.hours(6);
            x.tie(0, 0, 5, EAST);
            x.tie(1, 0, 45, WEST);
            x.loose(0, 0);
            x.loose(1, 0);
            due(x.wind(0), 15);
            x.hours(1);
            due(x.shipIs(1, 2), 1);
            due(x.wind(0), 10);
        });
        onlyAsks("what 0 is EAST", 1 + 3, Edges::some, x -> x.wind(0));
        onlyAsks("what 1 is SOUTH", 3 + 2, Edges::some, x -> x.wind(1));
        beyond("what", 0, 1, (x, v) -> x.wind(v));
    }

    private static void allLoosed(KnottedWinds x, int km, int way) {
        fleet(x, 5);
        x.hours(6);
        for (int i = 0; i < 15; i++) {
            x.tie(i / 3, i % 3, km, way);
            x.loose(i / 3, i % 3);
        }
        due("none is TIED", x.count(5), 0);
    }

    public static void main(String[] args) {
        aNewObject();
        land();
        drift();
        ship();
        shipIs();
        bring();
        tie();
        knotIs();
        as();
        loose();
        wind();
        end();
    }
}
