/** Each promise of the document by its number: ordinary calls, the edges that it names, its ERRORS in their order. */
public final class PromiseTest {
    private static final int LOW = -1000000000;
    private static final int BEYOND = LOW - 1;
    private static final int NONE = LOW - 2;
    private static final int STATE = LOW - 3;
    private static final int FULL = LOW - 4;
    private static final int KIND = LOW - 5;
    private static final int PARTED = LOW - 6;
    private static final int LEAST = Integer.MIN_VALUE;
    private static final int MOST = Integer.MAX_VALUE;
    private static final int NORTH = 0, EAST = 1, SOUTH = 2, WEST = 3;

    private static int wrong;
    private static int asked;
    private static int promise;

    private static void due(String what, int got, int want) {
        asked++;
        if (got != want) {
            wrong++;
            System.out.println("promise " + promise + ": " + what + " answered " + got + ", due is " + want);
        }
    }

    private static int text(KnottedWinds x, int use, String s) {
        return Edges.text(x, use, s);
    }

    /** One ship that has far to go, at 6 o'clock. */
    private static KnottedWinds atSix(int cell, int port) {
        KnottedWinds x = new KnottedWinds();
        x.ship(cell, port);
        x.hours(6);
        return x;
    }

    private static void aNewObject() {
        promise = 1;
        KnottedWinds x = new KnottedWinds();
        int[] counts = {0, 0, 0, 0, 0, 0, 0, 0, 0, 1, 0, 0};
        for (int what = 0; what < 12; what++) {
            due("count(" + what + ")", x.count(what), counts[what]);
        }
        for (int k = 1; k <= 6; k++) {
            due("told(" + k + ")", x.told(k), 0);
        }
        due("untell(0)", x.untell(0), 0);
        due("untell(1)", x.untell(1), 0);
        due("wind(0)", x.wind(0), 0);
        due("wind(1)", x.wind(1), 0);
        for (int cell = 0; cell < 64; cell++) {
            due("land", x.land(cell, 0), 0);
        }
        due("shipIs(0, 0)", x.shipIs(0, 0), BEYOND);
        due("body(0)", x.body(0), NONE);
        due("restore()", x.restore(), NONE);
        due("check()", x.check(), 0);
        for (int sheet = 0; sheet < 4; sheet++) {
            due("lands", x.lands(sheet), NONE);
        }
        KnottedWinds other = new KnottedWinds();
        other.ship(1, 2);
        due("two objects are two", x.count(0), 0);
    }

    private static void land() {
        promise = 2;
        KnottedWinds x = atSix(0, 63);
        due("land(1, 1)", x.land(1, 1), 0);
        due("again", x.land(1, 1), 1);
        due("back", x.land(1, 0), 1);
        due("last cell", x.land(63, 1), 0);
        int[][] beyond = {{-1, 0}, {64, 0}, {0, -1}, {0, 2}, {LEAST, 0}, {MOST, 1}, {0, MOST}};
        for (int[] b : beyond) {
            due("beyond", x.land(b[0], b[1]), BEYOND);
        }
        due("land under a ship", x.land(0, 1), 0);
        x.hours(1);
        due("who lies there isn't wrecked", x.shipIs(0, 2), 0);
        x.land(2, 1);
        x.drift(0, 9);
        x.hours(1);
        due("wrecked on the way", x.shipIs(0, 2), 1);
        due("where it came to land", x.shipIs(0, 0), 2);
    }

    private static void drift() {
        promise = 3;
        KnottedWinds x = new KnottedWinds();
        due("drift(0, 9)", x.drift(0, 9), 0);
        due("drift(0, -9)", x.drift(0, -9), 9);
        due("drift(1, 4)", x.drift(1, 4), 0);
        due("count(10)", x.count(10), -9);
        due("count(11)", x.count(11), 4);
        due("wind(0)", x.wind(0), -9);
        due("wind(1)", x.wind(1), 4);
        int[][] beyond = {{-1, 0}, {2, 0}, {0, 10}, {1, -10}, {LEAST, LEAST}, {0, MOST}};
        for (int[] b : beyond) {
            due("beyond", x.drift(b[0], b[1]), BEYOND);
        }
        due("unchanged", x.drift(0, 0), -9);
        x.drift(1, -5);
        x.ship(32, 63);
        x.hours(1);
        due("-5 by 3 is -1", x.shipIs(0, 0), 24);
        x.drift(1, 2);
        x.hours(1);
        due("2 by 3 is 0", x.shipIs(0, 0), 24);
    }

    private static void ship() {
        promise = 4;
        KnottedWinds x = new KnottedWinds();
        int[][] beyond = {{-1, 0}, {64, 0}, {0, -1}, {0, 64}, {LEAST, MOST}};
        for (int[] b : beyond) {
            due("beyond", x.ship(b[0], b[1]), BEYOND);
        }
        for (int i = 0; i < 5; i++) {
            due("number", x.ship(i, 63 - i), i);
        }
        due("beyond is asked ahead of full", x.ship(64, 0), BEYOND);
        due("full", x.ship(0, 1), FULL);
        due("count(0)", x.count(0), 5);
        for (int what = 0; what < 6; what++) {
            int[] facts = {0, 0, 0, -1, 0, 0};
            due("knots as at first", x.knotIs(4, 2, what), facts[what]);
        }
        KnottedWinds y = new KnottedWinds();
        y.ship(7, 7);
        due("begins in its port", y.shipIs(0, 2), 2);
        y.land(8, 1);
        y.ship(8, 9);
        due("begins on land", y.shipIs(1, 2), 0);
    }

    private static void shipIs() {
        promise = 5;
        KnottedWinds x = atSix(27, 30);
        x.tie(0, 0, 6, EAST);
        x.tie(0, 1, 14, WEST);
        due("cell", x.shipIs(0, 0), 27);
        due("port", x.shipIs(0, 1), 30);
        due("sailing", x.shipIs(0, 2), 0);
        due("tied", x.shipIs(0, 3), 3);
        due("worth", x.shipIs(0, 4), 30);
        x.loose(0, 1);
        due("tied", x.shipIs(0, 3), 2);
        due("worth of what is tied", x.shipIs(0, 4), 12);
        text(x, 1, "1-2");
        due("prices are held one by one", x.shipIs(0, 4), 0);
        text(x, 1, "999+m");
        due("prices are held above, too", x.shipIs(0, 4), 1998);
        int[][] beyond = {{-1, 0}, {1, 0}, {0, -1}, {0, 5}, {MOST, MOST}, {LEAST, 0}};
        for (int[] b : beyond) {
            due("beyond", x.shipIs(b[0], b[1]), BEYOND);
        }
    }

    private static void bring() {
        promise = 6;
        KnottedWinds x = atSix(0, 12);
        x.land(1, 1);
        due("where it was", x.bring(0, 1), 0);
        due("on land it sails", x.shipIs(0, 2), 0);
        due("to its port", x.bring(0, 12), 1);
        due("home", x.shipIs(0, 2), 2);
        due("away from home", x.bring(0, 0), 12);
        due("sails again", x.shipIs(0, 2), 0);
        x.drift(0, 3);
        x.hours(1);
        due("wrecked", x.shipIs(0, 2), 1);
        due("the wreck", x.bring(0, 4), 1);
        due("sails again", x.shipIs(0, 2), 0);
        int[][] beyond = {{-1, 0}, {1, 0}, {0, -1}, {0, 64}, {MOST, 0}, {0, LEAST}};
        for (int[] b : beyond) {
            due("beyond", x.bring(b[0], b[1]), BEYOND);
        }
        due("unchanged", x.shipIs(0, 0), 4);
    }

    private static void tie() {
        promise = 7;
        KnottedWinds x = atSix(0, 63);
        due("tie", x.tie(0, 2, 69, WEST), 0);
        due("as it was", x.tie(0, 2, 45, SOUTH), 369);
        due("loose", x.loose(0, 2), -10);
        due("a loosed one, too", x.tie(0, 2, 7, NORTH), 245);
        due("is tied then", x.knotIs(0, 2, 3), -1);
        due("the others stay", x.tie(0, 1, 0, 0), 0);
        int[][] beyond = {{-1, 0, 0, 0}, {1, 0, 0, 0}, {0, -1, 0, 0}, {0, 3, 0, 0}, {0, 0, -1, 0}, {0, 0, 70, 0},
            {0, 0, 0, -1}, {0, 0, 0, 4}, {MOST, MOST, MOST, MOST}, {0, LEAST, 0, 0}};
        for (int[] b : beyond) {
            due("beyond", x.tie(b[0], b[1], b[2], b[3]), BEYOND);
        }
        due("unchanged", x.tie(0, 2, 0, 0), 7);
        due("told", x.told(1), 10);
    }

    private static void knotIs() {
        promise = 8;
        KnottedWinds x = atSix(0, 63);
        x.tie(0, 0, 58, WEST);
        int[] tied = {5, 8, 3, -1, 0, 24};
        for (int what = 0; what < 6; what++) {
            due("tied " + what, x.knotIs(0, 0, what), tied[what]);
        }
        x.loose(0, 0);
        int[] loosed = {5, 8, 3, 6, 4, 0};
        for (int what = 0; what < 6; what++) {
            due("loosed " + what, x.knotIs(0, 0, what), loosed[what]);
        }
        int[][] beyond = {{-1, 0, 0}, {1, 0, 0}, {0, -1, 0}, {0, 3, 0}, {0, 0, -1}, {0, 0, 6}, {LEAST, MOST, 0}};
        for (int[] b : beyond) {
            due("beyond", x.knotIs(b[0], b[1], b[2]), BEYOND);
        }
        forces();
        prices();
    }

    /** FORCES of an m of 7, by KIND and HOURS behind the loosing. */
    private static void forces() {
        int[][] due = {
            {7, 7, 7, 0, 0, 0, 0, 0, 0, 0, 0, 0, 0},
            {-7, -7, -7, 0, 0, 0, 0, 0, 0, 0, 0, 0, 0},
            {3, 3, 3, 3, 3, 3, 0, 0, 0, 0, 0, 0, 0},
            {0, 0, 0, 0, 0, 0, 0, 0, 0, 0, 0, 0, 0},
            {-14, -7, -7, 0, 0, 0, 0, 0, 0, 0, 0, 0, 0},
            {3, 3, 3, 3, 3, 3, 3, 3, 3, 3, 3, 3, 0},
            {7, 7, 7, 0, 0, 0, 0, 0, 0, 0, 0, 0, 0},
        };
        for (int kind = 0; kind < 7; kind++) {
            KnottedWinds x = atSix(0, 63);
            x.tie(0, 0, 10 * kind + 7, NORTH);
            due("loose", x.loose(0, 0), due[kind][0]);
            for (int h = 0; h < 13; h++) {
                due("force of kind " + kind + " in hour " + h, x.knotIs(0, 0, 4), due[kind][h]);
                x.hours(1);
            }
        }
        KnottedWinds x = atSix(0, 63);
        x.tie(0, 0, 64, WEST);
        text(x, 0, "m*100+w*10+h-430");
        due("what BLOWS gives", x.loose(0, 0), 0);
        x.hours(5);
        due("by hours", x.knotIs(0, 0, 4), 5);
        x.hours(20);
        due("held", x.knotIs(0, 0, 4), 20);
        text(x, 0, "h-100");
        due("held below 0", x.knotIs(0, 0, 4), -20);
        x.tie(0, 1, 4, EAST);
        x.hours(6);
        x.loose(0, 1);
        due("others don't ask BLOWS", x.knotIs(0, 1, 4), 4);
    }

    private static void prices() {
        KnottedWinds x = atSix(0, 63);
        x.tie(0, 0, 45, WEST);
        x.tie(0, 1, 9, WEST);
        due("m*n", x.knotIs(0, 0, 5), 15);
        x.loose(0, 2);
        due("m*n, two tied", x.knotIs(0, 0, 5), 10);
        text(x, 1, "k*100+m*10+n");
        due("names of PRICE", x.knotIs(0, 0, 5), 452);
        text(x, 1, "k*250");
        due("held", x.knotIs(0, 0, 5), 999);
        text(x, 1, "0-m");
        due("held above 0", x.knotIs(0, 0, 5), 0);
    }

    private static void as() {
        promise = 9;
        KnottedWinds x = atSix(0, 63);
        boolean[][] under = {
            {true, false, false, false, false, false, false},
            {true, true, false, false, false, false, false},
            {true, false, true, false, false, false, false},
            {true, false, false, true, false, false, false},
            {true, true, false, false, true, false, false},
            {true, false, true, false, false, true, false},
            {true, false, false, false, false, false, true},
        };
        for (int kind = 0; kind < 7; kind++) {
            x.tie(0, 1, 10 * kind + 3, EAST);
            for (int as = 0; as < 7; as++) {
                due("kind " + kind + " as " + as, x.as(0, 1, as), under[kind][as] ? 3 : KIND);
            }
        }
        int[][] beyond = {{-1, 0, 0}, {1, 0, 0}, {0, -1, 0}, {0, 3, 0}, {0, 0, -1}, {0, 0, 7}, {0, 0, LEAST}};
        for (int[] b : beyond) {
            due("beyond", x.as(b[0], b[1], b[2]), BEYOND);
        }
    }

    private static void loose() {
        promise = 10;
        KnottedWinds x = new KnottedWinds();
        x.ship(0, 63);
        x.ship(8, 8);
        x.tie(0, 0, 9, SOUTH);
        x.tie(1, 0, 19, EAST);
        due("beyond", x.loose(0, 3), BEYOND);
        due("beyond", x.loose(0, -1), BEYOND);
        due("beyond", x.loose(2, 0), BEYOND);
        due("beyond", x.loose(-1, 0), BEYOND);
        due("beyond", x.loose(LEAST, MOST), BEYOND);
        due("night", x.loose(0, 0), STATE);
        x.hours(5);
        due("5 o'clock", x.loose(0, 0), STATE);
        x.hours(1);
        due("a ship at home, too", x.loose(1, 0), -9);
        due("blows to the other way", x.wind(0), -9);
        x.hours(11);
        due("17 o'clock", x.loose(0, 0), 9);
        due("loosed", x.loose(0, 0), STATE);
        due("hour of loosing", x.knotIs(0, 0, 3), 17);
        x.hours(1);
        due("18 o'clock", x.loose(0, 1), STATE);
        x.hours(3);
        x.bring(0, 0);
        x.land(1, 1);
        x.drift(0, 3);
        x.hours(10);
        due("wrecked", x.shipIs(0, 2), 1);
        due("day", x.count(2), 1);
        due("wrecked", x.loose(0, 1), STATE);
        due("told", x.told(3), 5);
    }

    private static void wind() {
        promise = 11;
        KnottedWinds x = atSix(0, 63);
        x.ship(9, 9);
        x.drift(0, 2);
        x.drift(1, -1);
        x.tie(0, 0, 9, EAST);
        x.tie(0, 1, 4, WEST);
        x.tie(0, 2, 3, NORTH);
        x.tie(1, 0, 15, SOUTH);
        due("drift alone", x.wind(0), 2);
        x.loose(0, 0);
        due("east", x.wind(0), 11);
        x.loose(0, 1);
        due("less west", x.wind(0), 7);
        x.loose(0, 2);
        due("less north", x.wind(1), -4);
        x.loose(1, 0);
        due("another ship's, backwards", x.wind(1), -9);
        x.hours(3);
        due("gone", x.wind(0), 2);
        due("gone", x.wind(1), -1);
        due("beyond", x.wind(2), BEYOND);
        due("beyond", x.wind(-1), BEYOND);
        due("beyond", x.wind(LEAST), BEYOND);
    }

    private static void feed() {
        promise = 12;
        KnottedWinds x = new KnottedWinds();
        due("beyond", x.feed(0, 0), BEYOND);
        due("beyond", x.feed(0, 9), BEYOND);
        due("beyond", x.feed(0, -1), BEYOND);
        due("beyond", x.feed(0, MOST), BEYOND);
        due("two of three", x.feed(0x393837L, 2), 2);
        due("lowest first", x.text(1), 1);
        x.ship(0, 1);
        due("price 78", x.knotIs(0, 0, 5), 78);
        for (int i = 1; i <= 7; i++) {
            due("eight more", x.feed(-1L, 8), 8 * i);
        }
        due("full", x.feed(0, 5), FULL);
        due("beyond is asked ahead of full", x.feed(0, 9), BEYOND);
        due("the last four", x.feed(0, 4), 60);
        due("full", x.feed(0, 1), FULL);
        due("count(6)", x.count(6), 60);
        due("bytes above 127 are no TEXT", x.text(0), -10);
        due("emptied", x.feed(0x3939393939393939L, 8), 8);
        due("eight digits", x.text(0), -14);
        x.feed(0x3700000000000031L, 8);
        due("a byte of 0", x.text(1), -11);
    }

    private static void text() {
        promise = 13;
        KnottedWinds x = atSix(0, 63);
        x.tie(0, 0, 45, EAST);
        String[][] values = {{"7", "7"}, {"0007", "7"}, {"k", "4"}, {"m", "5"}, {"n", "3"}, {"1+2*3", "7"},
            {"(1+2)*3", "9"}, {"9-3-2", "4"}, {"100/7/2", "7"}, {"17%5", "2"}, {"7/0", "0"}, {"7%0", "0"},
            {"(0-17)/5+9", "6"}, {"(0-17)%5+9", "7"}, {"3|0", "1"}, {"0|0", "0"}, {"(0|0)+5", "5"}, {"(3&0)+5", "5"}, {"(2<1)+5", "5"},
            {"(1=2)+5", "5"}, {"(1>2)+5", "5"}, {"!1+5", "5"}, {"3&2", "1"}, {"3&0", "0"},
            {"2<3", "1"}, {"3<2", "0"}, {"3=3", "1"}, {"3=2", "0"}, {"3>2", "1"}, {"2>3", "0"}, {"!0", "1"},
            {"!7", "0"}, {"!!7", "1"}, {"!0+5", "6"}, {"1|0&0", "1"}, {"1&0|1", "1"}, {"1<2&2<1", "0"},
            {"2+1<2*2", "1"}, {"1<2|9", "1"}, {"(1<2)<3", "1"}, {"9999*9999*9999%1000+999", "30"},
            {"((((((1", "-15"}, {"(((((1)))))", "1"}, {"(1)+(2)+(3)+(4)+(5)+(6)", "21"}, {"!(!(!0))", "1"},
            {"!0+!0+!0+!0+!0+!0", "6"}};
        for (String[] v : values) {
            int want = Integer.parseInt(v[1]);
            due(v[0], text(x, 1, v[0]), want < 0 ? want : 1);
            if (want >= 0) {
                due(v[0], x.knotIs(0, 0, 5), want);
            }
        }
        String sixty = "1+2+3+4+5+6+7+8+9+0+1+2+3+4+5+6+7+8+9+0+1+2+3+4+5+6+7+8+9000";
        due("60 bytes", text(x, 1, sixty.substring(0, 60)), 1);
        due("60 bytes", x.knotIs(0, 0, 5), 999);
        faults();
        KnottedWinds y = atSix(0, 63);
        y.tie(0, 0, 45, EAST);
        text(y, 1, "5");
        due("a fault", text(y, 1, "5+"), -12);
        due("the one ahead stays", y.knotIs(0, 0, 5), 5);
        due("the tape is empty", y.count(6), 0);
        Edges.feed(y, "77");
        due("beyond", y.text(2), BEYOND);
        due("beyond", y.text(-1), BEYOND);
        due("the tape stays", y.count(6), 2);
        due("in place of one ahead", y.text(1), 1);
        due("in place of one ahead", y.knotIs(0, 0, 5), 77);
        due("no ERROR", y.told(1), 2);
    }

    private static void faults() {
        KnottedWinds x = new KnottedWinds();
        String[][] faults = {{"", "0"}, {"x", "0"}, {" 1", "0"}, {"1 ", "1"}, {"12345", "4"}, {"1+", "2"},
            {"1++", "2"}, {"-1", "0"}, {"1<2<3", "3"}, {"1<2=3", "3"}, {"(1<2<3)", "4"}, {"(1", "2"}, {"(1))", "3"},
            {")", "0"}, {"()", "1"}, {"!", "1"}, {"!!!!!", "5"}, {"!!!!!!", "5"}, {"!!!!!(", "5"}, {"((((((", "5"},
            {"(!(!(!", "5"}, {"h1", "1"}, {"1h", "1"}, {"hm", "1"}, {"h!", "1"}, {"h(", "1"}, {"k", "0"}, {"n", "0"},
            {"h&", "2"}, {"h|", "2"}, {"h&|", "2"}, {"1<", "2"}, {"H", "0"}, {"1.5", "1"}, {"((1)", "4"},
            {"!h&!!!!!m+!!!!!!w", "15"}, {"1=2&3=4=5", "7"}};
        for (String[] f : faults) {
            due("fault of " + f[0], text(x, 0, f[0]), -10 - Integer.parseInt(f[1]));
        }
        due("h of BLOWS is none of PRICE", text(x, 1, "h"), -10);
        due("w of BLOWS is none of PRICE", text(x, 1, "1+w"), -12);
        due("m is of both", text(x, 0, "h+w+m"), 1);
        due("m is of both", text(x, 1, "k+m+n"), 1);
    }

    private static void untell() {
        promise = 14;
        KnottedWinds x = atSix(0, 63);
        due("none", x.untell(0), 0);
        text(x, 0, "20");
        text(x, 1, "20");
        due("there was", x.untell(0), 1);
        due("none any more", x.untell(0), 0);
        due("the other stays", x.untell(1), 1);
        due("beyond", x.untell(2), BEYOND);
        due("beyond", x.untell(-1), BEYOND);
        x.tie(0, 0, 65, EAST);
        due("as KNOT then", x.loose(0, 0), 5);
    }

    private static void hours() {
        promise = 15;
        KnottedWinds x = atSix(27, 30);
        due("beyond", x.hours(0), BEYOND);
        due("beyond", x.hours(49), BEYOND);
        due("beyond", x.hours(LEAST), BEYOND);
        x.tie(0, 0, 6, EAST);
        x.loose(0, 0);
        due("on its way", x.hours(1), 0);
        due("two cells", x.shipIs(0, 0), 29);
        due("home", x.hours(1), 1);
        due("no farther than its port", x.shipIs(0, 0), 30);
        due("stays home", x.hours(48), 1);
        due("stays home", x.shipIs(0, 0), 30);
        due("HOUR", x.count(1), 56);
        KnottedWinds y = atSix(0, 63);
        y.drift(0, -9);
        y.drift(1, 9);
        y.hours(1);
        due("the border, and the south", y.shipIs(0, 0), 24);
        y.drift(0, 9);
        y.drift(1, 0);
        y.hours(3);
        due("the eastern border", y.shipIs(0, 0), 31);
        y.drift(0, 3);
        y.drift(1, 6);
        y.land(63, 1);
        due("land in a port does no harm", y.hours(2), 1);
        KnottedWinds z = atSix(9, 63);
        z.land(10, 1);
        z.land(18, 1);
        z.drift(0, 3);
        z.drift(1, 3);
        z.hours(1);
        due("wrecked ahead of going south", z.shipIs(0, 0), 10);
        z.bring(0, 10);
        z.hours(1);
        due("from land on", z.shipIs(0, 0), 19);
        KnottedWinds end = new KnottedWinds();
        for (int i = 0; i < 208; i++) {
            end.hours(48);
        }
        due("HOUR 9984", end.count(1), 9984);
        due("above 9999", end.hours(16), STATE);
        due("beyond is asked ahead of it", end.hours(49), BEYOND);
        due("to 9999", end.hours(15), 0);
        due("above 9999", end.hours(1), STATE);
        due("no ships, and above 9999", end.draws(1), STATE);
        end.ship(0, 63);
        due("above 9999", end.draws(1), STATE);
        end.drift(0, 3);
        due("AHEAD goes beyond 9999", end.then(2, 0, 0), 2);
        due("HOUR", end.count(1), 9999);
    }

    private static void draws() {
        promise = 16;
        KnottedWinds x = new KnottedWinds();
        due("beyond", x.draws(0), BEYOND);
        due("beyond", x.draws(49), BEYOND);
        due("no ships", x.draws(48), STATE);
        x.ship(0, 63);
        int z = 1;
        int loosed = 0;
        boolean[] tied = {true, true, true};
        for (int hour = 0; hour < 48; hour++) {
            z = z * 1103515245 + 12345;
            if (hour % 24 >= 6 && hour % 24 <= 17) {
                z = z * 1103515245 + 12345;
                int knot = (z >>> 8) % 4;
                if (knot < 3 && tied[knot]) {
                    tied[knot] = false;
                    loosed++;
                }
            }
        }
        due("48 hours", x.draws(48), loosed);
        due("z", x.count(9), z);
        due("HOUR", x.count(1), 48);
        due("tied", x.count(5), 3 - loosed);
        KnottedWinds y = atSix(0, 1);
        y.drift(0, 3);
        y.land(1, 1);
        due("it sails on", y.draws(1) >= 0 ? y.shipIs(0, 2) : -1, 2);
        KnottedWinds end = new KnottedWinds();
        end.ship(0, 63);
        for (int i = 0; i < 208; i++) {
            end.hours(48);
        }
        due("above 9999", end.draws(16), STATE);
        due("z stays", end.count(9), 1);
        due("to 9999, by day", end.draws(15) >= 0 ? end.count(1) : -1, 9999);
        KnottedWinds w = atSix(0, 9);
        w.drift(0, 3);
        w.land(1, 1);
        w.hours(1);
        due("a wreck looses nothing", w.draws(11), 0);
        due("all tied", w.count(5), 3);
    }

    private static void seed() {
        promise = 17;
        KnottedWinds x = new KnottedWinds();
        due("1 at first", x.seed(7), 1);
        due("7", x.seed(LEAST), 7);
        due("any number", x.seed(-1000000001), LEAST);
        due("any number", x.count(9), -1000000001);
        due("is no ERROR", x.told(1), 0);
        x.seed(7);
        x.ship(0, 63);
        x.draws(1);
        due("a draw from there on", x.count(9), 7 * 1103515245 + 12345);
    }

    private static void then() {
        promise = 18;
        KnottedWinds x = atSix(27, 30);
        x.tie(0, 0, 6, EAST);
        x.tie(0, 1, 3, EAST);
        x.loose(0, 0);
        int[] now = {27, 30, 0, 2, 6};
        int[] home = {30, 30, 2, 2, 6};
        for (int what = 0; what < 5; what++) {
            due("behind 0", x.then(0, 0, what), now[what]);
            due("behind 48", x.then(48, 0, what), home[what]);
        }
        due("behind 1", x.then(1, 0, 0), 29);
        due("nothing goes by", x.count(1), 6);
        due("nothing goes by", x.shipIs(0, 0), 27);
        int[][] beyond = {{-1, 0, 0}, {49, 0, 0}, {0, -1, 0}, {0, 1, 0}, {0, 0, -1}, {0, 0, 5}, {MOST, LEAST, MOST}};
        for (int[] b : beyond) {
            due("beyond", x.then(b[0], b[1], b[2]), BEYOND);
        }
    }

    private static void home() {
        promise = 19;
        KnottedWinds x = atSix(0, 7);
        x.ship(5, 5);
        x.drift(0, 3);
        due("seven hours", x.home(0, 48), 7);
        due("by 7", x.home(0, 7), 7);
        due("not by 6", x.home(0, 6), NONE);
        due("at home", x.home(1, 0), 0);
        due("not by 0", x.home(0, 0), NONE);
        x.land(3, 1);
        due("a wreck", x.home(0, 48), NONE);
        due("beyond", x.home(0, 49), BEYOND);
        due("beyond", x.home(0, -1), BEYOND);
        due("beyond", x.home(2, 0), BEYOND);
        due("beyond", x.home(-1, 0), BEYOND);
        due("told", x.told(2), 3);
    }

    private static void soonest() {
        promise = 20;
        KnottedWinds x = atSix(24, 30);
        x.tie(0, 0, 3, EAST);
        x.tie(0, 1, 9, EAST);
        x.tie(0, 2, 6, EAST);
        // 9 and 6 bring it 3 and 5 cells: 3, then 3 + 2; 3 in the first hour, and 5 in the second are 8.
        due("hours", x.soonest(0, 10, 0), 2);
        due("9 alone does it in two", x.soonest(0, 10, 1), 1);
        due("one knot", x.soonest(0, 10, 2), 1);
        due("by 2", x.soonest(0, 2, 0), 2);
        due("not by 1", x.soonest(0, 1, 0), NONE);
        x.bring(0, 23);
        due("not along the row", x.soonest(0, 10, 0), NONE);
        x.bring(0, 27);
        due("one hour", x.soonest(0, 10, 0), 1);
        due("one hour by 9", x.soonest(0, 10, 1), 1);
        x.bring(0, 30);
        due("at home", x.soonest(0, 1, 0), 0);
        due("at home", x.soonest(0, 1, 1), 3);
        due("at home", x.soonest(0, 1, 2), 0);
        int[][] beyond = {{-1, 1, 0}, {1, 1, 0}, {0, 0, 0}, {0, 11, 0}, {0, 1, -1}, {0, 1, 3}, {LEAST, MOST, 0}};
        for (int[] b : beyond) {
            due("beyond", x.soonest(b[0], b[1], b[2]), BEYOND);
        }
        KnottedWinds same = atSix(0, 1);
        for (int knot = 0; knot < 3; knot++) {
            same.tie(0, knot, 3, EAST);
        }
        due("the least row", same.soonest(0, 5, 1), 0);
        same.drift(0, 3);
        due("fewest knots", same.soonest(0, 5, 1), 3);
        due("fewest knots", same.soonest(0, 5, 2), 0);
        KnottedWinds night = new KnottedWinds();
        night.ship(0, 1);
        night.tie(0, 0, 3, EAST);
        due("not by night", night.soonest(0, 6, 0), NONE);
        due("at 6 o'clock", night.soonest(0, 7, 0), 7);
        due("none now", night.soonest(0, 7, 1), 3);
        due("one later", night.soonest(0, 7, 2), 1);
        KnottedWinds corner = atSix(0, 9);
        corner.tie(0, 0, 3, SOUTH);
        corner.tie(0, 1, 3, EAST);
        corner.land(1, 1);
        due("one in an hour", corner.soonest(0, 10, 0), 2);
        due("south first", corner.soonest(0, 10, 1), 0);
        due("two knots", corner.soonest(0, 10, 2), 2);
        corner.land(1, 0);
        corner.land(8, 1);
        due("east goes ahead of south: 1, 2, 10", corner.soonest(0, 10, 1), NONE);
        corner.land(1, 1);
        due("a wreck on both ways", corner.soonest(0, 10, 0), NONE);
        corner.loose(0, 0);
        corner.loose(0, 1);
        due("what is loosed blows", corner.soonest(0, 10, 0), NONE);
        corner.land(1, 0);
        due("together", corner.soonest(0, 10, 0), 1);
        due("nothing is loosed", corner.soonest(0, 10, 1), 3);
        due("nothing has changed", corner.count(5), 1);
    }

    private static void bestKnot() {
        promise = 21;
        KnottedWinds x = new KnottedWinds();
        due("beyond", x.bestKnot(0, 0), BEYOND);
        due("beyond", x.bestKnot(25, 0), BEYOND);
        due("beyond", x.bestKnot(1, -1), BEYOND);
        due("beyond", x.bestKnot(1, 2), BEYOND);
        due("no ships", x.bestKnot(1, 0), NONE);
        x.ship(0, 3);
        x.ship(8, 11);
        x.ship(16, 17);
        x.tie(0, 0, 3, EAST);
        x.tie(1, 2, 9, EAST);
        x.tie(2, 1, 9, EAST);
        due("night", x.bestKnot(24, 0), NONE);
        x.hours(6);
        due("most ships", x.bestKnot(1, 0), 12);
        due("how many", x.bestKnot(1, 1), 3);
        due("the least of several", x.bestKnot(24, 0), 0);
        due("how many", x.bestKnot(24, 1), 3);
        x.drift(0, 3);
        due("by none more", x.bestKnot(3, 0), NONE);
        due("by one hour more", x.bestKnot(1, 0), 12);
        x.drift(0, 0);
        x.bring(0, 3);
        due("a ship at home has knots, too", x.bestKnot(3, 0), 0);
        due("nothing is loosed", x.count(5), 9);
        x.loose(1, 2);
        due("another one's, loosed, blows already", x.bestKnot(1, 0), NONE);
    }

    private static void who() {
        promise = 22;
        KnottedWinds x = new KnottedWinds();
        x.sheet(0, 8, 1);
        due("beyond", x.who(4, 1, 0), BEYOND);
        due("beyond", x.who(-1, 1, 0), BEYOND);
        due("beyond", x.who(0, 0, 0), BEYOND);
        due("beyond", x.who(0, 25, 0), BEYOND);
        due("beyond", x.who(0, 1, 3), BEYOND);
        due("beyond", x.who(0, 1, -1), BEYOND);
        due("no image", x.who(0, 1, 0), NONE);
        x.image();
        due("no ships: with none at all", x.who(0, 1, 2), 1);
        due("no knots", x.who(0, 1, 0), 0);
        due("no first", x.who(0, 1, 1), NONE);
        due("missing", x.who(1, 1, 0), NONE);
        x.ship(0, 63);
        x.ship(8, 63);
        x.tie(0, 1, 3, EAST);
        x.tie(1, 0, 3, EAST);
        x.tie(1, 2, 13, EAST);
        x.hours(15);
        due("the image has no ships", x.who(0, 24, 2), 1);
        x.image();
        due("too few numbers", x.who(0, 1, 0), NONE);
        x.sheet(0, 8, 2);
        x.put(0, 0, 3);
        x.put(0, 1, 11);
        x.hours(2);
        x.drift(0, 9);
        x.land(1, 1);
        due("both of 3 blow so", x.who(0, 3, 0), 2);
        due("the first", x.who(0, 3, 1), 1);
        due("each ahead of the first hour", x.who(0, 3, 2), 2);
        due("of 24, by day", x.who(0, 24, 2), 2 * (3 + 9 - 2));
        x.put(0, 0, 1);
        x.put(0, 1, 9);
        due("ahead of the last", x.who(0, 3, 2), 2);
        x.put(0, 0, 0);
        x.put(0, 1, 8);
        // Without any; by those of m 0, and the one that blows against the border: ahead of each of three hours.
        due("all that bring none on", x.who(0, 3, 0), 4);
        due("the first", x.who(0, 3, 1), 0);
        due("ways", x.who(0, 3, 2), 13);
        x.put(0, 1, 64);
        due("none", x.who(0, 3, 1), NONE);
        due("none", x.who(0, 3, 2), 0);
    }

    private static void race() {
        promise = 23;
        KnottedWinds x = atSix(0, 3);
        x.ship(8, 9);
        x.ship(40, 40);
        x.ship(63, 0);
        x.tie(0, 0, 3, EAST);
        x.tie(1, 0, 3, EAST);
        due("3 and 1", x.race(0, 1, 10), -2);
        due("1 and 3", x.race(1, 0, 10), 2);
        due("at home", x.race(2, 0, 3), 3);
        due("not by 2: n and 1", x.race(1, 0, 2), 2);
        due("never: n and 1", x.race(1, 3, 10), 10);
        due("both never", x.race(3, 0, 2), 0);
        due("one twice", x.race(1, 1, 5), BEYOND);
        int[][] beyond = {{-1, 0, 1}, {4, 0, 1}, {0, -1, 1}, {0, 4, 1}, {0, 1, 0}, {0, 1, 11}, {MOST, LEAST, 1}};
        for (int[] b : beyond) {
            due("beyond", x.race(b[0], b[1], b[2]), BEYOND);
        }
    }

    private static void voice() {
        promise = 24;
        KnottedWinds x = atSix(0, 63);
        x.ship(1, 63);
        // Ship 1, knot 1: k is 4; m is 6; x is 10.
        int[][] answers = {{14, 28, 22, 5}, {5, 10, 4, 5 - 8}, {14, -28, -34, 5}, {14, 28, 12, 5},
            {15, 30, 28, 5 - 24}, {14, -30, -36, 5}, {6, 18, 12, 5}};
        for (int kind = 0; kind < 7; kind++) {
            x.tie(1, 1, 10 * kind + 6, EAST);
            for (int voice = 0; voice < 4; voice++) {
                due("kind " + kind + ", voice " + voice, x.voice(1, 1, voice, 10), answers[kind][voice]);
            }
        }
        x.tie(1, 1, 6, EAST);
        due("wraps", x.voice(1, 1, 0, MOST), MOST + 4);
        due("wraps", x.voice(1, 1, 1, MOST), (MOST + 4) * 2);
        due("cut toward 0", x.voice(1, 1, 3, -7), -3);
        due("an answer below LOW is no ERROR", x.voice(1, 1, 0, -1000000005), -1000000001);
        x.tie(1, 1, 3, EAST);
        due("by -1", x.voice(1, 1, 3, LEAST), LEAST);
        due("told", x.told(1), 0);
        x.tie(1, 1, 4, EAST);
        due("parted", x.voice(1, 1, 3, 9), PARTED);
        x.tie(1, 1, 44, EAST);
        due("parted", x.voice(1, 1, 3, 9), PARTED);
        due("told", x.told(6), 2);
        int[][] beyond = {{-1, 0, 0}, {2, 0, 0}, {0, -1, 0}, {0, 3, 0}, {0, 0, -1}, {0, 0, 4}, {MOST, LEAST, 0}};
        for (int[] b : beyond) {
            due("beyond", x.voice(b[0], b[1], b[2], 1), BEYOND);
        }
    }

    private static void body() {
        promise = 25;
        KnottedWinds x = atSix(0, 63);
        x.ship(0, 63);
        int[][][] traces = {
            {{10}, {11, 10}, {12, 11, 10}, {13}},
            {{20, 10}, {11, 20, 10}, {12, 11, 20, 10}, {21, 13, 11, 20, 10}},
            {{10}, {30, 11, 10}, {12, 30, 11, 10}, {13}},
            {{10}, {11, 10}, {40, 12, 11, 10}, {13}},
            {{50, 20, 10}, {11, 50, 20, 10}, {51, 12, 11, 50, 20, 10}, {21, 13, 11, 50, 20, 10}},
            {{10}, {60, 30, 11, 10}, {12, 60, 30, 11, 10}, {13}},
            {{70}, {71, 11, 70}, {12, 71, 11, 70}, {13}},
        };
        for (int kind = 0; kind < 7; kind++) {
            x.tie(1, 0, 10 * kind + 9, EAST);
            for (int voice = 0; voice < 4; voice++) {
                x.voice(1, 0, voice, 5);
                int[] trace = traces[kind][voice];
                due("length", x.count(8), trace.length);
                for (int i = 0; i < trace.length; i++) {
                    due("kind " + kind + ", voice " + voice + ", body " + i, x.body(i), trace[i]);
                }
                due("none such", x.body(trace.length), NONE);
            }
        }
        due("none such", x.body(-1), NONE);
        due("none such", x.body(MOST), NONE);
        x.voice(1, 0, 1, 5);
        x.voice(1, 3, 0, 5);
        due("a voice that is BEYOND leaves the trace", x.body(0), 71);
        due("a voice that is BEYOND leaves the trace", x.count(8), 3);
        bodyOfParted(x);
    }

    /** Of each KIND parts() ends in BODY 13, and nothing begins behind it. */
    private static void bodyOfParted(KnottedWinds x) {
        int[][] traces = {{13}, {21, 13}, {13}, {13}, {21, 13}, {13}, {13}};
        for (int kind = 0; kind < 7; kind++) {
            x.tie(1, 0, 10 * kind + 3, EAST);
            x.voice(1, 0, 2, 5);
            due("parted", x.voice(1, 0, 3, 5), PARTED);
            int[] trace = traces[kind];
            due("length of a parted one", x.count(8), trace.length);
            for (int i = 0; i < trace.length; i++) {
                due("parted, kind " + kind + ", body " + i, x.body(i), trace[i]);
            }
            due("none such", x.body(trace.length), NONE);
        }
        x.image();
        x.voice(1, 0, 1, 5);
        x.restore();
        due("an IMAGE keeps no trace", x.body(0), 71);
        KnottedWinds y = new KnottedWinds();
        due("none at first", y.body(0), NONE);
        y.ship(0, 0);
        due("parted", y.voice(0, 0, 3, 0), PARTED);
        due("parted ahead of any other voice", y.body(0), 13);
    }

    private static void sheet() {
        promise = 26;
        KnottedWinds x = new KnottedWinds();
        due("beyond", x.sheet(4, 8, 1), BEYOND);
        due("beyond", x.sheet(-1, 8, 1), BEYOND);
        due("beyond", x.sheet(0, 9, 1), BEYOND);
        due("beyond", x.sheet(0, -8, 1), BEYOND);
        due("beyond ahead of state", x.sheet(0, 64, -1), BEYOND);
        due("beyond ahead of state", x.sheet(4, 8, -1), BEYOND);
        due("below 0", x.sheet(0, 8, -1), STATE);
        due("below 0", x.sheet(0, 8, LEAST), STATE);
        due("too many", x.sheet(0, 8, 25), BEYOND);
        due("too many", x.sheet(0, 8, MOST), BEYOND);
        due("still missing", x.lands(0), NONE);
        due("24", x.sheet(0, 8, 24), 1);
        due("all 0", x.lands(0), 24);
        due("none at all", x.sheet(0, 32, 0), 1);
        due("is there, too", x.lands(0), 0);
        due("missing, n doesn't matter", x.sheet(0, 0, -5), 1);
        due("missing", x.lands(0), NONE);
        due("missing, n doesn't matter", x.sheet(0, 0, 99), 1);
        x.sheet(1, 16, 2);
        x.put(1, 0, 64);
        x.sheet(1, 16, 2);
        due("all 0 anew", x.lands(1), 2);
    }

    private static void put() {
        promise = 27;
        KnottedWinds x = new KnottedWinds();
        due("no such sheet", x.put(4, 0, 0), BEYOND);
        due("no such sheet", x.put(-1, 0, 0), BEYOND);
        due("missing", x.put(0, 99, 0), NONE);
        x.sheet(0, 8, 2);
        x.sheet(1, 16, 2);
        x.sheet(2, 32, 2);
        due("no such number", x.put(0, 2, 0), BEYOND);
        due("no such number", x.put(0, -1, 0), BEYOND);
        due("no such number", x.put(0, MOST, 0), BEYOND);
        due("put", x.put(0, 1, 256 + 63), 1);
        due("its lowest bits", x.lands(0), 2);
        due("put", x.put(0, 0, 255), 1);
        due("its lowest bits", x.lands(0), 0);
        due("put", x.put(1, 1, 65536 + 5), 1);
        due("its lowest bits", x.lands(1), 2);
        due("put", x.put(1, 0, 256), 1);
        due("its lowest bits", x.lands(1), 0);
        due("put", x.put(2, 1, 65536), 1);
        due("its lowest bits", x.lands(2), 1);
        due("put", x.put(2, 0, -1), 1);
        due("its lowest bits", x.lands(2), 0);
    }

    private static void move() {
        promise = 28;
        KnottedWinds x = new KnottedWinds();
        x.sheet(0, 8, 4);
        x.sheet(1, 16, 4);
        x.sheet(3, 8, 3);
        due("no such sheet", x.move(4, 0, 0, 0, 0), BEYOND);
        due("no such sheet", x.move(0, 0, -1, 0, 0), BEYOND);
        due("no such sheet, one missing", x.move(2, 0, 4, 0, 0), BEYOND);
        due("missing", x.move(2, -1, 0, 0, -1), NONE);
        due("missing", x.move(0, -1, 2, 0, -1), NONE);
        due("unlike bits", x.move(0, -1, 1, 0, -1), KIND);
        int[][] beyond = {{-1, 0, 1}, {0, -1, 1}, {0, 0, -1}, {4, 0, 1}, {0, 3, 1}, {1, 0, 4}, {0, 0, 4}, {0, 1, 3},
            {MOST, 0, MOST}, {MOST, 0, 1}, {5, 0, 0}, {0, 4, 0}, {LEAST, 0, 1}, {0, 0, MOST}};
        for (int[] b : beyond) {
            due("they don't stand there", x.move(0, b[0], 3, b[1], b[2]), BEYOND);
        }
        due("none at the end", x.move(0, 4, 3, 3, 0), 0);
        KnottedWinds y = new KnottedWinds();
        y.sheet(0, 8, 5);
        for (int i = 0; i < 5; i++) {
            y.put(0, i, 10 + i);
        }
        due("to the same one", y.move(0, 0, 0, 1, 4), 4);
        y.put(0, 4, 99);
        // 10 10 11 12 99
        y.lands(0);
        due("as they all were", y.land(10, 0), 1);
        due("as they all were", y.land(11, 0), 1);
        due("as they all were", y.land(12, 0), 1);
        due("as they all were", y.land(13, 0), 0);
        y.sheet(1, 8, 2);
        due("to another one", y.move(0, 2, 1, 0, 2), 2);
        due("two cells", y.lands(1), 2);
        due("two cells", y.land(11, 0), 1);
        due("two cells", y.land(12, 0), 1);
        due("none else", y.land(10, 0), 0);
    }

    private static void lands() {
        promise = 29;
        KnottedWinds x = new KnottedWinds();
        due("beyond", x.lands(4), BEYOND);
        due("beyond", x.lands(-1), BEYOND);
        due("none", x.lands(0), NONE);
        x.sheet(0, 8, 5);
        int[] cells = {5, 63, 5, 64, 7};
        for (int i = 0; i < 5; i++) {
            x.put(0, i, cells[i]);
        }
        x.land(9, 1);
        due("up to the first that is no cell", x.lands(0), 3);
        due("land now", x.land(5, 0), 1);
        due("land now", x.land(63, 0), 1);
        due("behind it", x.land(7, 0), 0);
        due("land ahead of it stays", x.land(9, 0), 1);
        due("no ERROR", x.told(1), 2);
    }

    private static void judge() {
        promise = 30;
        KnottedWinds x = atSix(0, 3);
        x.drift(0, 3);
        due("beyond", x.judge(4, 0), BEYOND);
        due("beyond", x.judge(0, 1), BEYOND);
        due("beyond", x.judge(0, -1), BEYOND);
        due("none", x.judge(0, 0), NONE);
        due("beyond ahead of none", x.judge(0, 5), BEYOND);
        x.sheet(0, 8, 0);
        due("no numbers", x.judge(0, 0), 0);
        x.sheet(0, 8, 24);
        due("0 now, not behind an hour", x.judge(0, 0), 1);
        for (int i = 0; i < 24; i++) {
            x.put(0, i, Math.min(i, 3));
        }
        due("all are so", x.judge(0, 0), 24);
        x.put(0, 23, 4);
        due("but the last", x.judge(0, 0), 23);
        x.put(0, 0, 1);
        due("the first", x.judge(0, 0), 0);
        due("no hour goes by", x.count(1), 6);
    }

    private static void image() {
        promise = 31;
        KnottedWinds x = atSix(0, 63);
        due("once", x.image(), 1);
        x.hours(1);
        due("twice", x.image(), 2);
        due("in place of the one ahead", x.restore(), 7);
        due("how often isn't kept in it", x.image(), 3);
        due("the image stays as it was", x.hours(3), 0);
        due("the image stays as it was", x.restore(), 7);
    }

    private static void restore() {
        promise = 32;
        KnottedWinds x = atSix(0, 63);
        due("none", x.restore(), NONE);
        x.tie(0, 0, 65, EAST);
        x.tie(0, 1, 13, WEST);
        x.loose(0, 1);
        x.drift(0, 2);
        x.drift(1, -2);
        x.land(50, 1);
        x.seed(99);
        text(x, 0, "h+9");
        text(x, 1, "n+9");
        Edges.feed(x, "12");
        x.tell(302);
        x.sheet(0, 8, 1);
        x.image();
        x.ship(1, 1);
        x.loose(0, 0);
        x.tie(0, 1, 0, NORTH);
        x.tie(0, 2, 22, NORTH);
        x.drift(0, 9);
        x.drift(1, 9);
        x.land(50, 0);
        x.land(51, 1);
        x.hours(2);
        x.draws(1);
        x.feed(65, 1);
        x.text(0);
        x.untell(1);
        x.tell(5);
        x.sheet(0, 8, 2);
        x.voice(0, 0, 1, 1);
        due("HOUR", x.restore(), 6);
        int[] counts = {1, 6, 1, 0, 0, 2, 2, 1, 3, 99, 2, -2};
        for (int what = 0; what < 12; what++) {
            due("count(" + what + ")", x.count(what), counts[what]);
        }
        due("land", x.land(50, 1), 1);
        due("no land", x.land(51, 0), 0);
        due("cell", x.shipIs(0, 0), 0);
        due("loosed", x.knotIs(0, 1, 3), 6);
        due("worth", x.shipIs(0, 4), 22);
        due("as tied", x.tie(0, 2, 0, NORTH), 0);
        due("BLOWS", x.loose(0, 0), 9);
        x.tie(0, 0, 65, EAST);
        due("sheets aren't kept", x.put(0, 1, 0), 1);
        due("what told() tells isn't kept", x.told(2), 1);
        due("the tape", x.text(1), 1);
        due("the tape", x.knotIs(0, 0, 5), 12);
        x.tie(0, 1, 3, WEST);
        due("no longer so", x.check(), 1);
        due("HOUR", x.restore(), 6);
        due("100 * 5 - 2 it is, not 302", x.check(), 1);
        KnottedWinds y = atSix(0, 63);
        y.ship(5, 9);
        y.image();
        y.ship(6, 6);
        y.tie(2, 0, 55, SOUTH);
        y.restore();
        due("the third ship is anew", y.ship(7, 8), 2);
        due("with knots as at first", y.tie(2, 0, 0, 0), 0);
    }

    private static void tell() {
        promise = 33;
        KnottedWinds x = new KnottedWinds();
        for (int i = 1; i <= 24; i++) {
            due("how many", x.tell(i == 1 ? LEAST : MOST), i);
        }
        due("full", x.tell(0), FULL);
        due("count(7)", x.count(7), 24);
        x.check();
        due("anew", x.tell(0), 1);
    }

    private static void check() {
        promise = 34;
        KnottedWinds x = atSix(0, 63);
        due("none wait", x.check(), 0);
        x.tie(0, 0, 7, EAST);
        x.tie(0, 1, 8, NORTH);
        x.drift(1, 1);
        x.loose(0, 0);
        x.hours(1);
        x.loose(0, 1);
        int[] winds = {693, 693, -7, 1, 1};
        for (int w : winds) {
            x.tell(w);
        }
        due("all so", x.check(), 0);
        due("none wait then", x.count(7), 0);
        for (int i = 0; i < 5; i++) {
            x.tell(i == 3 ? 0 : winds[i]);
        }
        due("the fourth isn't so", x.check(), 4);
        due("none wait then", x.count(7), 0);
        due("no hour goes by", x.count(1), 7);
        for (int i = 0; i < 24; i++) {
            x.tell(i < 2 ? 693 : i == 2 ? -7 : 1);
        }
        due("24", x.check(), 0);
    }

    private static void count() {
        promise = 35;
        KnottedWinds x = atSix(0, 63);
        x.ship(9, 9);
        x.land(1, 1);
        x.drift(0, 3);
        x.hours(1);
        x.drift(1, -4);
        x.loose(1, 0);
        x.feed(0, 3);
        x.tell(1);
        x.tell(2);
        x.voice(0, 0, 2, 1);
        x.seed(-5);
        int[] counts = {2, 7, 1, 1, 1, 5, 3, 2, 3, -5, 3, -4};
        for (int what = 0; what < 12; what++) {
            due("count(" + what + ")", x.count(what), counts[what]);
        }
        due("beyond", x.count(12), BEYOND);
        due("beyond", x.count(-1), BEYOND);
        due("beyond", x.count(LEAST), BEYOND);
        KnottedWinds day = new KnottedWinds();
        for (int hour = 0; hour < 30; hour++) {
            due("day in hour " + hour, day.count(2), hour % 24 >= 6 && hour % 24 <= 17 ? 1 : 0);
            day.hours(1);
        }
    }

    private static void told() {
        promise = 36;
        KnottedWinds x = new KnottedWinds();
        due("another k", x.told(0), BEYOND);
        due("another k", x.told(7), BEYOND);
        due("another k", x.told(LEAST), BEYOND);
        due("counted, too", x.told(1), 3);
        due("no ERROR itself", x.told(1), 3);
        x.restore();
        x.body(0);
        x.draws(1);
        x.ship(0, 0);
        x.as(0, 0, 1);
        x.voice(0, 0, 3, 1);
        for (int i = 0; i < 26; i++) {
            x.tell(0);
        }
        int[] told = {3, 2, 1, 2, 1, 1};
        for (int k = 1; k <= 6; k++) {
            due("told(" + k + ")", x.told(k), told[k - 1]);
        }
    }

    public static void main(String[] args) {
        aNewObject();
        land();
        drift();
        ship();
        shipIs();
        bring();
        tie();
        knotIs();
        as();
        loose();
        wind();
        feed();
        text();
        untell();
        hours();
        draws();
        seed();
        then();
        home();
        soonest();
        bestKnot();
        who();
        race();
        voice();
        body();
        sheet();
        put();
        move();
        lands();
        judge();
        image();
        restore();
        tell();
        check();
        count();
        told();
        System.out.println(asked + " answers were asked, " + wrong + " are not as due");
        if (wrong != 0) {
            System.exit(1);
        }
    }
}
