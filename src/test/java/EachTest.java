/** Each value that an argument may have, not those at its bounds alone, where answers differ by it. */
public final class EachTest extends Edges {
    /** To the EAST for 7 HOURS, one to the SOUTH, 7 to the west, one to the SOUTH, ..: by CELLS of each row in turn. */
    private static final String SNAKE = "(w=1)*3*((h%16<7)-(h%16>7)*(h%16<15))+(w=2)*3*(h%8=7)";

    /** Where a SHIP from CELL 0 lies behind so many HOURS of the SNAKE. */
    private static int snake(int hours) {
        int row = hours / 8;
        return 8 * row + (row % 2 == 0 ? hours % 8 : 7 - hours % 8);
    }

    /** At 6 o'clock SHIPS in CELL 0 with these PORTS; two KNOTS of the last one, loosed now, make the SNAKE. */
    private static Run snaking(int... ports) {
        return x -> {
            for (int port : ports) {
                x.ship(0, port);
            }
            x.hours(6);
            text(x, 0, SNAKE);
            int last = ports.length - 1;
            x.tie(last, 0, 60, EAST);
            x.tie(last, 1, 60, SOUTH);
            x.loose(last, 0);
            x.loose(last, 1);
        };
    }

    /** Five SHIPS in CELLS 0, 8, 16, ..; all go a CELL to the east in each HOUR; SHIP s is HOME behind s + 1. */
    private static void eastward(KnottedWinds x) {
        for (int ship = 0; ship < 5; ship++) {
            x.ship(8 * ship, 8 * ship + ship + 1);
        }
        x.drift(0, 3);
    }

    private static void sea() {
        promise(2);
        edge("each CELL becomes LAND, and no other one", x -> {
            for (int cell = 0; cell < 64; cell++) {
                due("land(" + cell + ", 1)", x.land(cell, 1), 0);
            }
            for (int cell = 0; cell < 64; cell++) {
                due("land(" + cell + ", 0)", x.land(cell, 0), 1);
            }
        });
        promise(3);
        for (int what = 0; what < 2; what++) {
            int w = what;
            edge("each v of what " + w, x -> {
                x.drift(w, -9);
                for (int v = -8; v <= 9; v++) {
                    due("drift(" + w + ", " + v + ")", x.drift(w, v), v - 1);
                    due(x.wind(w), v);
                    due(x.wind(1 - w), 0);
                }
            });
        }
        promise(4);
        for (int cell = 0; cell < 64; cell++) {
            int c = cell;
            edge("a SHIP in CELL " + c + ", with PORT " + (63 - c), x -> {
                due(x.ship(c, 63 - c), 0);
                due(x.shipIs(0, 0), c);
                due(x.shipIs(0, 1), 63 - c);
                due(x.shipIs(0, 2), 0);
            });
        }
        promise(6);
        edge("to each CELL", x -> {
            x.ship(63, 5);
            for (int cell = 0; cell < 64; cell++) {
                due("bring(0, " + cell + ")", x.bring(0, cell), (cell + 63) % 64);
                due(x.shipIs(0, 2), cell == 5 ? 2 : 0);
            }
        });
        promise(7);
        edge("each km and each WAY", x -> {
            x.ship(5, 6);
            for (int i = 1; i < 281; i++) {
                due("tie " + i, x.tie(0, 1, i % 70, i / 70 % 4), 100 * ((i - 1) / 70 % 4) + (i - 1) % 70);
            }
        });
    }

    private static void hours() {
        promise(15);
        for (int n = 1; n <= 48; n++) {
            int of = n;
            edge("n " + of, x -> {
                snaking(63).on(x);
                due(x.hours(of), 0);
                due(x.count(1), 6 + of);
                due(x.shipIs(0, 0), snake(of));
            });
        }
        promise(16);
        for (int n = 1; n <= 48; n++) {
            int of = n;
            edge("n " + of, x -> {
                snaking(63).on(x);
                int loosed = x.draws(of);
                due("KNOTS that are TIED, behind " + loosed + " of one", x.count(5), 1 - loosed);
                due(x.count(1), 6 + of);
                due(x.shipIs(0, 0), snake(of));
            });
        }
    }

    private static void ahead() {
        promise(18);
        for (int n = 0; n <= 48; n++) {
            int of = n;
            onlyAsks("n " + of, snake(of), snaking(63), x -> x.then(of, 0, 0));
        }
        for (int ship = 0; ship < 5; ship++) {
            int s = ship;
            onlyAsks("of five SHIPS, CELL of SHIP " + s, 8 * s + 1, EachTest::eastward, x -> x.then(1, s, 0));
        }
        promise(19);
        for (int n = 0; n <= 48; n++) {
            int of = n;
            onlyAsks("HOME behind " + of + " HOURS, n 48", of, snaking(snake(of), 63), x -> x.home(0, 48));
            onlyAsks("HOME behind " + of + " HOURS, n just so", of, snaking(snake(of), 63), x -> x.home(0, of));
            if (of > 0) {
                refused("HOME behind " + of + " HOURS, n one fewer", NONE, snaking(snake(of), 63),
                    x -> x.home(0, of - 1));
            }
        }
        for (int ship = 0; ship < 5; ship++) {
            int s = ship;
            onlyAsks("of five SHIPS, SHIP " + s, s + 1, EachTest::eastward, x -> x.home(s, 48));
        }
        promise(20);
        for (int n = 1; n <= 10; n++) {
            int of = n;
            onlyAsks("HOME behind " + of + " HOURS, n just so", of, snaking(snake(of), 63), x -> x.soonest(0, of, 0));
            refused("HOME behind " + (of + 1) + " HOURS, n one fewer", NONE, snaking(snake(of + 1), 63),
                x -> x.soonest(0, of, 0));
        }
        for (int ship = 0; ship < 5; ship++) {
            int s = ship;
            onlyAsks("of five SHIPS, SHIP " + s, s + 1, EachTest::eastward, x -> x.soonest(s, 10, 0));
        }
    }

    private static void races() {
        promise(23);
        int[] behind = {0, 3, 6, 10, 11};
        int[] ports = new int[5];
        for (int i = 0; i < 5; i++) {
            ports[i] = snake(behind[i]);
        }
        for (int one = 0; one < 5; one++) {
            for (int other = 0; other < 5; other++) {
                for (int n = 1; n <= 10 && one != other; n++) {
                    int a = one;
                    int b = other;
                    int of = n;
                    edge("SHIPS " + a + " and " + b + " by " + of, x -> {
                        snaking(ports).on(x);
                        due(x.race(a, b, of), Math.min(of + 1, behind[b]) - Math.min(of + 1, behind[a]));
                    });
                }
            }
        }
    }

    private static void best() {
        promise(21);
        for (int n = 1; n <= 24; n++) {
            int of = n;
            Run one = x -> {
                x.ship(0, 8);
                x.hours(6);
                text(x, 0, "(h=" + (of - 1) + ")*3");
                x.tie(0, 2, 60, SOUTH);
            };
            onlyAsks("HOME behind " + of + " HOURS, n just so", 2, one, x -> x.bestKnot(of, 0));
            if (of > 1) {
                refused("HOME behind " + of + " HOURS, n one fewer", NONE, one, x -> x.bestKnot(of - 1, 0));
            }
        }
        for (int ship = 0; ship < 5; ship++) {
            for (int knot = 0; knot < 3; knot++) {
                int s = ship;
                int k = knot;
                onlyAsks("of five SHIPS, SHIP " + s + " KNOT " + k, 10 * s + k, x -> {
                    fleet(x, 4);
                    x.ship(32, 33);
                    x.hours(6);
                    x.tie(s, k, 3, EAST);
                }, x -> x.bestKnot(1, 0));
            }
        }
    }

    private static void who() {
        promise(22);
        for (int n = 1; n <= 24; n++) {
            int of = n;
            int sheet = n % 4;
            Run told = x -> {
                snaking(63, 63).on(x);
                x.image();
                x.sheet(sheet, 8, 2);
                x.put(sheet, 0, snake(of));
                x.put(sheet, 1, snake(of));
            };
            onlyAsks("SHEET " + sheet + ", n " + of, 4, told, x -> x.who(sheet, of, 0));
            onlyAsks("SHEET " + sheet + ", n " + of + ": ROWS", 4 * Math.min(12, of) + 1, told,
                x -> x.who(sheet, of, 2));
            onlyAsks("SHEET " + sheet + ", n " + (of % 24 + 1) + ", but told of n " + of, 0, told,
                x -> x.who(sheet, of % 24 + 1, 2));
        }
    }

    private static void voices() {
        promise(24);
        for (int i = 0; i < 15; i++) {
            int s = i / 3;
            int k = i % 3;
            int at = i;
            edge("of five SHIPS, SHIP " + s + " KNOT " + k + ", each x -9 .. 9", x -> {
                fleet(x, 5);
                x.tie(s, k, 7, 0);
                for (int of = -9; of <= 9; of++) {
                    due("blows(" + of + ")", x.voice(s, k, 0, of), of + at);
                    due("turns(" + of + ")", x.voice(s, k, 1, of), 2 * (of + at));
                    due("ties(" + of + ")", x.voice(s, k, 2, of), 2 * (of + at) - 7);
                    due("parts(" + of + ")", x.voice(s, k, 3, of), at == 7 ? PARTED : of / (7 - at));
                }
            });
        }
    }

    private static final int[] X = {LEAST, LEAST + 1, -1000000007, -1000, -41, -3, 0, 3, 41, 1000, 1000000007, MOST - 1,
        MOST};

    private static int blows(int kind, int k, int x) {
        switch (kind) {
            case 1: return x + k - 9;
            case 4: return (x + k - 9) * 3;
            case 6: return 6;
            default: return x + k;
        }
    }

    private static int turns(int kind, int m, int k, int x) {
        switch (kind) {
            case 2: return 0 - 2 * (x + k);
            case 5: return 0 - 2 * (x + 1 + k);
            case 6: return 12 + m;
            default: return 2 * blows(kind, k, x);
        }
    }

    private static int ties(int kind, int m, int k, int x) {
        switch (kind) {
            case 3: return 2 * (x / 2 + k) - m;
            case 4: return turns(kind, m, k, x) - m ^ k;
            default: return turns(kind, m, k, x) - m;
        }
    }

    private static int parts(int kind, int m, int k, int x) {
        if (m == k) {
            return PARTED;
        }
        return x / (m - k) + (kind == 1 || kind == 4 ? turns(kind, m, k, 1) : 0);
    }

    private static void voicesOfKinds() {
        promise(24);
        for (int i = 0; i < 70 * 15; i++) {
            int kind = i / 150;
            int m = i / 15 % 10;
            int k = i % 15;
            edge("KIND " + kind + ", m " + m + ", k " + k + ", each VOICE of x from one end to the other", x -> {
                fleet(x, 5);
                x.tie(k / 3, k % 3, 10 * kind + m, 2);
                for (int of : X) {
                    due("blows(" + of + ")", x.voice(k / 3, k % 3, 0, of), blows(kind, k, of));
                    due("turns(" + of + ")", x.voice(k / 3, k % 3, 1, of), turns(kind, m, k, of));
                    due("ties(" + of + ")", x.voice(k / 3, k % 3, 2, of), ties(kind, m, k, of));
                    due("parts(" + of + ")", x.voice(k / 3, k % 3, 3, of), parts(kind, m, k, of));
                }
                due("told(6)", x.told(6), m == k ? X.length : 0);
            });
        }
    }

    private static void sheets() {
        promise(26);
        for (int n = 0; n <= 24; n++) {
            int of = n;
            edge("n " + of, x -> {
                due(x.sheet(1, 16, of), 1);
                due(x.lands(1), of);
                due("the last", x.put(1, of - 1, 1), of == 0 ? BEYOND : 1);
                due("one behind the last", x.put(1, of, 1), BEYOND);
            });
        }
        promise(27);
        for (int i = 0; i < 24; i++) {
            int of = i;
            edge("number " + of + " of 24", x -> {
                x.sheet(2, 8, 24);
                due(x.put(2, of, 64), 1);
                due(x.lands(2), of);
                due(x.put(2, of, 63), 1);
                due(x.lands(2), 24);
                due(x.land(63, 0), 1);
            });
        }
    }

    /** SHEET 0's numbers are CELLS 1 .. 24, the other one's are 40. */
    private static void moved(int other, int i, int j, int n) {
        edge("to SHEET " + other + ", " + n + " from number " + i + " on to number " + j + " on", x -> {
            x.sheet(0, 8, 24);
            x.sheet(other, 8, 24);
            for (int k = 0; k < 24; k++) {
                x.put(other, k, 40);
                x.put(0, k, 1 + k);
            }
            due(x.move(0, i, other, j, n), n);
            int first = other == 0 ? 1 : 40;
            due(x.lands(other), 24);
            boolean[] due = new boolean[64];
            for (int k = 0; k < 24; k++) {
                due[k >= j && k < j + n ? 1 + i + k - j : other == 0 ? first + k : first] = true;
            }
            for (int cell = 0; cell < 64; cell++) {
                due("CELL " + cell, x.land(cell, 0), due[cell] ? 1 : 0);
            }
            if (n > 0) {
                x.ship(1 + i, 63);
                x.sheet((other + 1) % 4, 8, 1);
                x.move(other, j, (other + 1) % 4, 0, 1);
                due("number " + j, x.judge((other + 1) % 4, 0), 1);
            }
        });
    }

    private static void moves() {
        promise(28);
        for (int other = 0; other < 4; other++) {
            for (int i = 0; i <= 24; i++) {
                moved(other, i, 24 - i, 0);
            }
            for (int i = 0; i < 24; i++) {
                moved(other, i, 23 - i, 1);
                if (i < 23) {
                    moved(other, i, 0, 24 - i);
                }
                if (i > 0 && i < 23) {
                    moved(other, 0, i, 24 - i);
                }
            }
        }
    }

    private static void read() {
        promise(29);
        for (int sheet = 0; sheet < 4; sheet++) {
            int s = sheet;
            edge("SHEET " + s + " of four", x -> {
                for (int i = 0; i < 4; i++) {
                    x.sheet(i, 8, i + 1);
                }
                due(x.lands(s), s + 1);
            });
        }
        promise(30);
        for (int i = 0; i < 20; i++) {
            int sheet = i / 5;
            int ship = i % 5;
            onlyAsks("SHEET " + sheet + " of four, SHIP " + ship + " of five", 4 + sheet, x -> {
                fleet(x, 5);
                x.drift(0, 3);
                for (int s = 0; s < 4; s++) {
                    x.sheet(s, 8, 24);
                    for (int k = 0; k < 4 + s; k++) {
                        x.put(s, k, s == sheet ? 8 * ship + k : 63);
                    }
                }
            }, x -> x.judge(sheet, ship));
        }
    }

    private static void told() {
        promise(33);
        edge("each number that a WIND may be, by DRIFT alone", x -> {
            for (int east = -9; east <= 9; east++) {
                x.drift(0, east);
                x.drift(1, -east);
                x.tell(99 * east);
                due("WINDS " + east + ", " + -east, x.check(), 0);
            }
        });
        edge("-1, 0, 1, 100, each for itself", x -> {
            int[] numbers = {-1, 0, 1, 100, -100};
            for (int wind : numbers) {
                x.drift(0, wind / 100);
                x.drift(1, wind % 100);
                for (int number : new int[] {-1, 0, 1, 100, -100, LEAST, MOST, LOW, 300}) {
                    x.tell(number);
                    due(number + " told of " + wind, x.check(), number == wind ? 0 : 1);
                }
            }
        });
        promise(34);
        for (int i = 0; i < 24; i++) {
            int of = i;
            edge("24 wait, the first that isn't so is number " + of, x -> {
                snaking(63).on(x);
                for (int t = 0; t < 24; t++) {
                    int wind = t % 8 == 7 ? 3 : t % 16 < 7 ? 300 : -300;
                    x.tell(t < of ? wind : -wind);
                }
                due(x.check(), 1 + of);
            });
        }
        promise(36);
        edge("each k for itself", x -> {
            x.ship(0, 0);
            for (int i = 0; i < 7; i++) {
                x.feed(0, 8);
            }
            Call[] errors = {y -> y.wind(2), y -> y.restore(), y -> y.loose(0, 0), y -> y.feed(0, 8),
                y -> y.as(0, 0, 1), y -> y.voice(0, 0, 3, 0)};
            for (int k = 1; k <= 6; k++) {
                for (int i = 0; i < k; i++) {
                    due("an ERROR", errors[k - 1].on(x), LOW - k);
                }
            }
            for (int k = 1; k <= 6; k++) {
                due("told(" + k + ")", x.told(k), k);
            }
        });
    }

    public static void main(String[] args) {
        sea();
        hours();
        ahead();
        races();
        best();
        who();
        voices();
        voicesOfKinds();
        sheets();
        moves();
        read();
        told();
        end();
    }
}
