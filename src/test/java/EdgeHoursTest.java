/** Promises 15 to 17, each boundary case by itself: HOURS, DRAWS, z. */
public final class EdgeHoursTest extends Edges {
    private static final int SAILING = 0;
    private static final int WRECKED = 1;
    private static final int HOME = 2;

    /** A SHIP in a CELL with a PORT, LAND in some CELLS, this DRIFT: one HOUR on it lies there, and is that. */
    private static void goes(String of, int cell, int port, int[] lands, int east, int south, int to, int is) {
        edge(of, x -> {
            x.ship(cell, port);
            for (int land : lands) {
                x.land(land, 1);
            }
            x.drift(0, east);
            x.drift(1, south);
            due("hours(1)", x.hours(1), is == HOME ? 1 : 0);
            due("its CELL", x.shipIs(0, 0), to);
            due("what it is", x.shipIs(0, 2), is);
        });
    }

    private static void goes(String of, int cell, int east, int south, int to) {
        goes(of, cell, cell == 62 ? 61 : 62, new int[0], east, south, to, SAILING);
    }

    private static int[] in(int... cells) {
        return cells;
    }

    private static void arguments() {
        edge("n 1, the least", x -> {
            due(x.hours(1), 0);
            due(x.count(1), 1);
        });
        edge("n 48, the most", x -> {
            due(x.hours(48), 0);
            due(x.count(1), 48);
        });
        beyond("n", 1, 48, (x, v) -> x.hours(v));
        edge("to HOUR 9999, the last, by 1", x -> {
            till(x, 9998);
            due(x.hours(1), 0);
            due(x.count(1), 9999);
        });
        edge("to HOUR 9999, the last, by 48", x -> {
            till(x, 9951);
            due(x.hours(48), 0);
            due(x.count(1), 9999);
        });
        refused("to HOUR 10000 by 1", STATE, x -> late(x, 9999), x -> x.hours(1));
        refused("to HOUR 10000 by 48", STATE, x -> late(x, 9952), x -> x.hours(48));
        refused("to HOUR 10047 by 48", STATE, x -> late(x, 9999), x -> x.hours(48));
        refused("BEYOND is asked ahead of STATE", BEYOND, x -> late(x, 9999), x -> x.hours(49));
        refused("BEYOND of 0 is asked in HOUR 9999, too", BEYOND, x -> late(x, 9999), x -> x.hours(0));
        edge("fewer may go by behind STATE", x -> {
            till(x, 9998);
            due(x.hours(2), STATE);
            due(x.hours(1), 0);
        });
    }

    private static void late(KnottedWinds x, int hour) {
        x.ship(0, 63);
        x.drift(0, 3);
        till(x, hour);
        x.bring(0, 0);
    }

    private static void thirds() {
        int[][] cells = {{-9, -3}, {-8, -2}, {-7, -2}, {-6, -2}, {-5, -1}, {-4, -1}, {-3, -1}, {-2, 0}, {-1, 0}, {0, 0},
            {1, 0}, {2, 0}, {3, 1}, {4, 1}, {5, 1}, {6, 2}, {7, 2}, {8, 2}, {9, 3}};
        for (int[] c : cells) {
            goes("EAST " + c[0] + " by 3, cut", 27, c[0], 0, 27 + c[1]);
            goes("SOUTH " + c[0] + " by 3, cut", 27, 0, c[0], 27 + 8 * c[1]);
        }
        edge("EAST 20 by 3 is 6, one CELL short of the border", x -> {
            Edges.text(x, 0, "20");
            x.ship(24, 62);
            x.hours(6);
            x.tie(0, 0, 60, EAST);
            x.loose(0, 0);
            x.hours(1);
            due(x.shipIs(0, 0), 30);
        });
        edge("EAST 2 of a KNOT and 1 of DRIFT are 3 together", x -> {
            x.ship(0, 62);
            x.drift(0, 1);
            x.hours(6);
            x.tie(0, 0, 2, EAST);
            x.loose(0, 0);
            x.hours(1);
            due(x.shipIs(0, 0), 1);
        });
    }

    private static void borders() {
        goes("the eastern border from the last column", 31, 9, 0, 31);
        goes("the eastern border from the one before", 30, 9, 0, 31);
        goes("three CELLS end at the eastern border", 28, 9, 0, 31);
        goes("the western border from the first column", 32, -9, 0, 32);
        goes("the western border from the second", 33, -9, 0, 32);
        goes("three CELLS end at the western border", 35, -9, 0, 32);
        goes("the northern border from row 0", 3, 0, -9, 3);
        goes("the northern border from row 1", 11, 0, -9, 3);
        goes("three CELLS end at the northern border", 27, 0, -9, 3);
        goes("the southern border from row 7", 60, 0, 9, 60);
        goes("the southern border from row 6", 52, 0, 9, 60);
        goes("three CELLS end at the southern border", 36, 0, 9, 60);
        goes("CELL 0 to the north and the west", 0, -9, -9, 0);
        goes("CELL 7 to the north and the east", 7, 9, -9, 7);
        goes("CELL 56 to the south and the west", 56, -9, 9, 56);
        goes("CELL 63 to the south and the east", 63, 9, 9, 63);
        goes("at the eastern border it goes SOUTH all the same", 31, 9, 9, 55);
        goes("at the western border it goes north all the same", 32, -9, -9, 8);
        goes("stopped on its way EAST, it goes SOUTH all the same", 30, 9, 3, 39);
        goes("at the border, on LAND that it stands on, it isn't WRECKED", 31, 62, in(31), 9, 0, 31, SAILING);
        goes("at the northern border, on LAND that it stands on", 3, 62, in(3), 0, -9, 3, SAILING);
        goes("the other end of the row matters not", 31, 62, in(32, 24), 9, 0, 31, SAILING);
    }

    private static void landsAndPorts() {
        goes("LAND in the first CELL of its way", 24, 62, in(25), 9, 0, 25, WRECKED);
        goes("LAND in the second CELL of its way", 24, 62, in(26), 9, 0, 26, WRECKED);
        goes("LAND in the last CELL of its way", 24, 62, in(27), 9, 0, 27, WRECKED);
        goes("LAND one CELL behind its way", 24, 62, in(28), 9, 0, 27, SAILING);
        goes("LAND behind it", 25, 62, in(24), 9, 0, 28, SAILING);
        goes("LAND twice on its way: the first", 24, 62, in(25, 27), 9, 0, 25, WRECKED);
        goes("LAND to the west", 27, 62, in(25), -9, 0, 25, WRECKED);
        goes("LAND to the north", 27, 62, in(11), 0, -9, 11, WRECKED);
        goes("LAND to the south", 27, 62, in(43), 0, 9, 43, WRECKED);
        goes("LAND in the last column", 30, 62, in(31), 3, 0, 31, WRECKED);
        goes("LAND in row 0, column 0", 1, 62, in(0), -3, 0, 0, WRECKED);
        goes("LAND in CELL 63", 55, 62, in(63), 0, 3, 63, WRECKED);
        goes("LAND where it would turn SOUTH", 24, 62, in(25), 3, 3, 25, WRECKED);
        goes("WRECKED on its way EAST, it goes no farther SOUTH", 24, 62, in(26), 9, 9, 26, WRECKED);
        goes("LAND aslant isn't on its way", 24, 62, in(32, 34), 3, 3, 33, SAILING);
        goes("LAND to the SOUTH alone isn't on its way: EAST goes ahead", 24, 62, in(32), 3, 3, 33, SAILING);
        goes("LAND behind the turn", 24, 62, in(33), 3, 3, 33, WRECKED);
        goes("LAND that it stands on, with no wind", 24, 62, in(24), 2, -2, 24, SAILING);
        goes("LAND that it stands on, as it goes away", 24, 62, in(24), 3, 0, 25, SAILING);
        goes("its PORT in the first CELL of its way", 24, 25, in(), 9, 0, 25, HOME);
        goes("its PORT in the second CELL of its way", 24, 26, in(), 9, 0, 26, HOME);
        goes("its PORT in the last CELL of its way", 24, 27, in(), 9, 0, 27, HOME);
        goes("its PORT one CELL behind its way", 24, 28, in(), 9, 0, 27, SAILING);
        goes("its PORT to the west", 27, 25, in(), -9, 0, 25, HOME);
        goes("its PORT to the north", 27, 11, in(), 0, -9, 11, HOME);
        goes("its PORT to the south", 27, 43, in(), 0, 9, 43, HOME);
        goes("its PORT in CELL 0", 1, 0, in(), -3, 0, 0, HOME);
        goes("its PORT in CELL 63", 62, 63, in(), 3, 0, 63, HOME);
        goes("HOME on its way EAST, it goes no farther SOUTH", 24, 26, in(), 9, 9, 26, HOME);
        goes("its PORT where it would turn SOUTH", 24, 25, in(), 3, 3, 25, HOME);
        goes("its PORT behind the turn", 24, 33, in(), 3, 3, 33, HOME);
        goes("its PORT aslant isn't on its way", 24, 32, in(), 3, 3, 33, SAILING);
        goes("LAND in its PORT does no harm", 24, 25, in(25), 9, 0, 25, HOME);
        goes("LAND ahead of its PORT", 24, 26, in(25), 9, 0, 25, WRECKED);
        goes("LAND behind its PORT", 24, 26, in(27), 9, 0, 26, HOME);
        goes("its PORT at the border", 30, 31, in(), 9, 0, 31, HOME);
        goes("its PORT on the other side of the border", 31, 32, in(), 9, 0, 31, SAILING);
    }

    private static void ships() {
        edge("no SHIPS: none is HOME, and HOUR goes on", x -> {
            due(x.hours(48), 0);
            due(x.count(1), 48);
        });
        edge("all five go, and all are HOME", x -> {
            for (int i = 0; i < 5; i++) {
                x.ship(8 * i, 8 * i + 2);
            }
            x.drift(0, 3);
            due(x.hours(1), 0);
            due(x.hours(1), 5);
        });
        edge("one that begins HOME is counted", x -> {
            x.ship(9, 9);
            due(x.hours(1), 1);
        });
        edge("a HOME one stays where it is", x -> {
            x.ship(9, 9);
            x.drift(0, 9);
            x.drift(1, 9);
            due(x.hours(48), 1);
            due(x.shipIs(0, 0), 9);
        });
        edge("a WRECKED one stays where it is", x -> {
            x.ship(9, 63);
            x.land(10, 1);
            x.drift(0, 9);
            x.hours(1);
            x.drift(1, 9);
            due(x.hours(48), 0);
            due(x.shipIs(0, 0), 10);
            due(x.shipIs(0, 2), WRECKED);
        });
        edge("a WRECKED one isn't HOME, though LAND becomes water", x -> {
            x.ship(9, 63);
            x.land(10, 1);
            x.drift(0, 9);
            x.hours(1);
            x.land(10, 0);
            due(x.hours(1), 0);
            due(x.shipIs(0, 0), 10);
        });
        edge("another one's PORT is water to it", x -> {
            x.ship(24, 63);
            x.ship(5, 25);
            x.drift(0, 9);
            x.hours(1);
            due(x.shipIs(0, 0), 27);
            due(x.shipIs(0, 2), SAILING);
        });
        edge("another one's PORT on LAND wrecks it", x -> {
            x.ship(24, 63);
            x.ship(5, 25);
            x.land(25, 1);
            x.drift(0, 9);
            x.hours(1);
            due(x.shipIs(0, 2), WRECKED);
        });
        edge("two may lie in one CELL", x -> {
            x.ship(24, 63);
            x.ship(24, 62);
            x.drift(0, 3);
            x.hours(1);
            due(x.shipIs(0, 0), 25);
            due(x.shipIs(1, 0), 25);
        });
        edge("THE WIND is that of each HOUR: three HOURS of a KNOT in one call of 48", x -> {
            lone(x);
            x.tie(0, 0, 3, EAST);
            x.loose(0, 0);
            x.hours(48);
            due(x.shipIs(0, 0), 3);
        });
        edge("THE WIND of an HOUR is as it was ahead of it: HOUR is 1 more behind it", x -> {
            lone(x);
            text(x, 0, "(h=1)*3");
            x.tie(0, 0, 60, EAST);
            x.loose(0, 0);
            x.hours(1);
            due(x.shipIs(0, 0), 0);
            x.hours(1);
            due(x.shipIs(0, 0), 1);
            x.hours(1);
            due(x.shipIs(0, 0), 1);
        });
    }

    // ---- draws

    private static int drawn(int z) {
        return z * 1103515245 + 12345;
    }

    /** A z by which, by day, of so many SHIPS this one's KNOT is drawn (3: none). */
    private static int seedFor(int ships, int ship, int knot) {
        for (int z = 0; z < 1000000; z++) {
            int first = drawn(z);
            int second = drawn(first);
            if ((first >>> 8) % ships == ship && (second >>> 8) % 4 == knot) {
                return z;
            }
        }
        return 0;
    }

    private static int drawnBy(int z, int draws) {
        int last = z;
        for (int i = 0; i < draws; i++) {
            last = drawn(last);
        }
        return last;
    }

    /** So many draws in one HOUR. */
    private static void drawsIn(int hour, int draws) {
        edge(draws + " of z in HOUR " + hour, x -> {
            x.ship(0, 63);
            till(x, hour);
            x.seed(99);
            x.draws(1);
            due("z", x.count(9), drawnBy(99, draws));
            due("HOUR", x.count(1), hour + 1);
        });
    }

    private static void draws() {
        promise(16);
        edge("n 1, the least", x -> {
            x.ship(0, 63);
            due(x.draws(1), 0);
            due(x.count(1), 1);
        });
        edge("n 48, the most: 24 HOURS of night, 24 of day", x -> {
            x.ship(0, 63);
            x.draws(48);
            due(x.count(1), 48);
            due(x.count(9), drawnBy(1, 24 + 2 * 24));
        });
        beyond("n", 1, 48, (x, v) -> x.draws(v));
        refused("there are no SHIPS", STATE, x -> x.hours(6), x -> x.draws(1));
        refused("there are no SHIPS, n 48", STATE, Edges::nothing, x -> x.draws(48));
        refused("no SHIPS: BEYOND is asked ahead of STATE", BEYOND, Edges::nothing, x -> x.draws(49));
        refused("to HOUR 10000 by 1", STATE, x -> late(x, 9999), x -> x.draws(1));
        refused("to HOUR 10000 by 48", STATE, x -> late(x, 9952), x -> x.draws(48));
        refused("HOUR 9999: BEYOND is asked ahead of STATE", BEYOND, x -> late(x, 9999), x -> x.draws(0));
        edge("to HOUR 9999, the last, by 1", x -> {
            late(x, 9998);
            due("draws(1)", x.draws(1) >= 0 ? 1 : 0, 1);
            due(x.count(1), 9999);
        });
        edge("to HOUR 9999, the last, by 48", x -> {
            late(x, 9951);
            due("draws(48)", x.draws(48) >= 0 ? 1 : 0, 1);
            due(x.count(1), 9999);
        });
        drawsIn(0, 1);
        drawsIn(5, 1);
        drawsIn(6, 2);
        drawsIn(17, 2);
        drawsIn(18, 1);
        drawsIn(23, 1);
        drawsIn(24, 1);
        drawsIn(29, 1);
        drawsIn(30, 2);
        drawsIn(9998, 2);
        for (int ships : new int[] {1, 2, 5}) {
            for (int ship = 0; ship < ships; ship++) {
                for (int knot = 0; knot < 3; knot++) {
                    drawnIs(ships, ship, knot);
                }
            }
        }
        drawsThatLooseNone();
        edge("z below 0 gives no draw below 0", x -> {
            fleet(x, 3);
            x.hours(6);
            int z = 5;
            while (drawn(z) >= 0 || drawn(drawn(z)) >= 0 || (drawn(drawn(z)) >>> 8) % 4 == 3) {
                z++;
            }
            int ship = (drawn(z) >>> 8) % 3;
            int knot = (drawn(drawn(z)) >>> 8) % 4;
            x.seed(z);
            due(x.draws(1), 1);
            due(x.knotIs(ship, knot, 3), 6);
        });
        edge("what is LOOSED blows in this HOUR", x -> {
            lone(x);
            x.tie(0, 1, 3, EAST);
            x.seed(seedFor(1, 0, 1));
            due(x.draws(1), 1);
            due(x.shipIs(0, 0), 1);
        });
        edge("all that are LOOSED are counted: three, the most of one SHIP", x -> {
            lone(x);
            int loosed = 0;
            for (int i = 0; i < 10; i++) {
                loosed += x.draws(48);
            }
            due(loosed, 3);
            due(x.draws(48), 0);
        });
    }

    private static void drawnIs(int ships, int ship, int knot) {
        edge("KNOT " + knot + " of SHIP " + ship + " of " + ships, x -> {
            fleet(x, ships);
            x.hours(6);
            x.seed(seedFor(ships, ship, knot));
            due(x.draws(1), 1);
            due("it is loosed", x.knotIs(ship, knot, 3), 6);
            due("the others are TIED", x.count(5), 3 * ships - 1);
        });
    }

    private static void drawsThatLooseNone() {
        edge("3: none", x -> {
            fleet(x, 2);
            x.hours(6);
            x.seed(seedFor(2, 0, 3));
            due(x.draws(1), 0);
            due(x.count(5), 6);
        });
        edge("3 of the last SHIP: none", x -> {
            fleet(x, 5);
            x.hours(6);
            x.seed(seedFor(5, 4, 3));
            due(x.draws(1), 0);
            due(x.count(5), 15);
        });
        edge("a loosed one: none, and it stays as it was loosed", x -> {
            lone(x);
            x.loose(0, 1);
            x.hours(1);
            x.seed(seedFor(1, 0, 1));
            due(x.draws(1), 0);
            due(x.knotIs(0, 1, 3), 6);
        });
        edge("one of a WRECKED SHIP: none", x -> {
            x.ship(0, 63);
            x.land(1, 1);
            x.drift(0, 3);
            x.hours(6);
            x.seed(seedFor(1, 0, 1));
            due(x.draws(1), 0);
            due(x.count(5), 3);
        });
        for (int ship = 0; ship < 5; ship++) {
            int s = ship;
            for (int drawn = 0; drawn < 5; drawn++) {
                int d = drawn;
                edge("of five SHIPS, SHIP " + s + " WRECKED, one of SHIP " + d, x -> {
                    fleet(x, 5);
                    x.land(8 * s + 1, 1);
                    x.drift(0, 3);
                    x.hours(6);
                    x.seed(seedFor(5, d, 2));
                    due(x.draws(1), d == s ? 0 : 1);
                    due(x.knotIs(d, 2, 3), d == s ? -1 : 6);
                });
            }
        }
        edge("one of a HOME SHIP is LOOSED", x -> {
            x.ship(9, 9);
            x.hours(6);
            x.seed(seedFor(1, 0, 1));
            due(x.draws(1), 1);
            due(x.count(5), 2);
        });
        edge("by night: none", x -> {
            x.ship(0, 63);
            x.seed(seedFor(1, 0, 1));
            due(x.draws(1), 0);
            due(x.count(5), 3);
        });
    }

    private static void seed() {
        promise(17);
        edge("1 at first", x -> due(x.seed(5), 1));
        for (int v : new int[] {LEAST, LEAST + 1, LOW - 7, PARTED, BEYOND, LOW, -1, 0, 1, MOST}) {
            edge("any number: " + v, x -> {
                due(x.seed(v), 1);
                due(x.count(9), v);
                due(x.seed(3), v);
                for (int k = 1; k <= 6; k++) {
                    due("told(" + k + "): it is no ERROR", x.told(k), 0);
                }
            });
        }
        edge("z wraps around", x -> {
            x.ship(0, 63);
            x.seed(MOST);
            x.draws(1);
            due(x.count(9), (int) (2147483647L * 1103515245L + 12345L));
        });
        edge("z 0 goes on by 12345", x -> {
            x.ship(0, 63);
            x.seed(0);
            x.draws(1);
            due(x.count(9), 12345);
        });
    }

    public static void main(String[] args) {
        promise(15);
        arguments();
        thirds();
        borders();
        landsAndPorts();
        ships();
        draws();
        seed();
        end();
    }
}
