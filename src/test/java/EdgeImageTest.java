/** Promises 31 to 36, each boundary case by itself: IMAGES, numbers that wait, what is counted and told. */
public final class EdgeImageTest extends Edges {
    /** A thing of which there was something, an IMAGE was made, and then it was changed: restore() brings it back. */
    private static void kept(String of, Run ahead, Run behind, Run asks) {
        edge("it is kept: " + of, x -> {
            ahead.on(x);
            x.image();
            behind.on(x);
            x.restore();
            asks.on(x);
        });
        edge("it is kept again, as the IMAGE stays: " + of, x -> {
            ahead.on(x);
            x.image();
            behind.on(x);
            x.restore();
            behind.on(x);
            x.restore();
            asks.on(x);
        });
    }

    private static void image() {
        promise(31);
        edge("the first time: 1", x -> due(x.image(), 1));
        edge("the second time: 2, in place of the one ahead", x -> {
            x.hours(1);
            due(x.image(), 1);
            x.hours(1);
            due(x.image(), 2);
            x.hours(1);
            due(x.restore(), 2);
        });
        edge("how often isn't kept", x -> {
            x.image();
            x.image();
            x.restore();
            due(x.image(), 3);
        });
        edge("of a new object", x -> {
            due(x.image(), 1);
            some(x);
            due(x.restore(), 7);
        });
        kept("no SHIPS", Edges::nothing, x -> fleet(x, 5), x -> {
            due(x.count(0), 0);
            due(x.ship(5, 6), 0);
        });
        kept("five SHIPS, the most", x -> fleet(x, 5), x -> x.bring(4, 1), x -> {
            due(x.count(0), 5);
            due(x.ship(5, 6), FULL);
            due(x.shipIs(4, 0), 32);
        });
        kept("a SHIP's CELL", x -> x.ship(5, 6), x -> x.bring(0, 7), x -> due(x.shipIs(0, 0), 5));
        kept("a SHIP that is SAILING", x -> x.ship(5, 6), x -> x.bring(0, 6), x -> due(x.shipIs(0, 2), 0));
        kept("a SHIP that is HOME", x -> x.ship(6, 6), x -> x.bring(0, 5), x -> due(x.shipIs(0, 2), 2));
        kept("a SHIP that is WRECKED", Edges::some, x -> x.bring(1, 31), x -> due(x.shipIs(1, 2), 1));
        kept("a SHIP's PORT", x -> x.ship(5, 6), x -> x.ship(7, 8), x -> {
            due(x.shipIs(0, 1), 6);
            x.bring(0, 6);
            due(x.shipIs(0, 2), 2);
        });
        kept("no SHIP, as another one has its number then", Edges::nothing, x -> x.ship(5, 6), x -> {
            x.ship(7, 8);
            due(x.shipIs(0, 1), 8);
        });
        kept("a KNOT's KIND, m and WAY", x -> {
            x.ship(5, 6);
            x.tie(0, 2, 69, 3);
        }, x -> x.tie(0, 2, 11, 1), x -> due(x.tie(0, 2, 0, 0), 369));
        kept("a TIED KNOT", Edges::lone, x -> x.loose(0, 1), x -> due(x.knotIs(0, 1, 3), -1));
        kept("a loosed KNOT", x -> {
            lone(x);
            x.loose(0, 1);
        }, x -> x.tie(0, 1, 0, 0), x -> due(x.knotIs(0, 1, 3), 6));
        kept("HOUR", x -> x.hours(5), x -> x.hours(48), x -> due(x.count(1), 5));
        kept("HOUR 9999", x -> till(x, 9999), x -> x.tell(1), x -> due(x.hours(1), STATE));
        kept("LAND", x -> x.land(63, 1), x -> x.land(63, 0), x -> due(x.land(63, 0), 1));
        kept("water", x -> x.land(62, 1), x -> x.land(0, 1), x -> due(x.land(0, 0), 0));
        kept("DRIFT to the EAST", x -> x.drift(0, -9), x -> x.drift(0, 9), x -> due(x.drift(0, 0), -9));
        kept("DRIFT to the SOUTH", x -> x.drift(1, -9), x -> x.drift(1, 9), x -> due(x.drift(1, 0), -9));
        kept("z", x -> x.seed(LEAST), x -> x.seed(5), x -> due(x.seed(0), LEAST));
        kept("THE TAPE, its bytes too", x -> feed(x, "7"), x -> {
            x.text(0);
            feed(x, "95");
        }, x -> {
            due(x.count(6), 1);
            due(x.text(1), 1);
            x.ship(5, 6);
            due(x.knotIs(0, 0, 5), 7);
        });
        kept("an empty TAPE", Edges::nothing, x -> feed(x, "7"), x -> due(x.text(1), -10));
        kept("a full TAPE", x -> feed(x, "1+".repeat(30)), x -> x.text(0), x -> due(x.feed(49, 1), FULL));
        kept("BLOWS", x -> text(x, 0, "7"), x -> text(x, 0, "8"), x -> {
            lone(x);
            x.tie(0, 0, 60, 0);
            due(x.loose(0, 0), 7);
        });
        kept("PRICE", x -> text(x, 1, "7"), x -> x.untell(1), x -> {
            x.ship(5, 6);
            due(x.knotIs(0, 0, 5), 7);
        });
        kept("no TEXTS", Edges::nothing, x -> {
            text(x, 0, "8");
            text(x, 1, "8");
        }, x -> {
            due(x.untell(0), 0);
            due(x.untell(1), 0);
        });
        kept("numbers that wait", x -> {
            x.tell(0);
            x.tell(5);
        }, x -> {
            x.check();
            x.tell(5);
        }, x -> {
            due(x.count(7), 2);
            due(x.check(), 2);
        });
        kept("24 numbers that wait, the most", x -> told(x, 24), x -> x.check(), x -> due(x.tell(0), FULL));
        keptToTheLast();
        notKept();
    }

    /** Of each row that an IMAGE keeps, its last place too. */
    private static void keptToTheLast() {
        kept("each CELL: LAND in each second row", x -> eachCell(x, 0), x -> eachCell(x, 1), x -> {
            for (int cell = 0; cell < 64; cell++) {
                due("LAND in CELL " + cell, x.land(cell, 0), cell / 8 % 2);
            }
        });
        for (int ship = 0; ship < 5; ship++) {
            int s = ship;
            kept("of five SHIPS the CELL of SHIP " + s, Edges::five, x -> x.bring(s, 63),
                x -> due(x.shipIs(s, 0), 8 * s + 1));
            edge("of five SHIPS the PORT of SHIP " + s + ", others being there ahead of restore()", x -> {
                x.image();
                five(x);
                due(x.restore(), 0);
                for (int i = 0; i < 5; i++) {
                    x.ship(63, 50 + i);
                }
                x.image();
                due(x.restore(), 0);
                due(x.shipIs(s, 1), 50 + s);
            });
            for (int knot = 0; knot < 3; knot++) {
                int k = knot;
                kept("of five SHIPS KNOT " + k + " of SHIP " + s, Edges::five, x -> x.tie(s, k, 0, (s + k + 2) % 4),
                    x -> due(x.tie(s, k, 0, 0), 100 * wayOf(s, k) + 10 * kindOf(s, k) + mOf(s, k)));
                kept("of five SHIPS KNOT " + k + " of SHIP " + s + ", that it is loosed", x -> {
                    five(x);
                    x.hours(6);
                    x.loose(s, k);
                }, x -> x.tie(s, k, 0, 0), x -> due(x.knotIs(s, k, 3), 6));
            }
        }
        kept("a full TAPE, its last byte", x -> feed(x, "1+".repeat(29) + "k*"), x -> x.text(1),
            x -> due(x.text(1), -70));
        kept("a full TAPE, all of its bytes", x -> feed(x, "1+".repeat(29) + "1*"), x -> {
            x.text(1);
            feed(x, "?".repeat(60));
        }, x -> due(x.text(1), -70));
        kept("a full TAPE that is a TEXT", x -> feed(x, "1+".repeat(28) + "1001"), x -> {
            x.text(1);
            feed(x, "?".repeat(60));
        }, x -> {
            due(x.text(1), 1);
            x.ship(5, 6);
            due(x.knotIs(0, 0, 5), 999);
            text(x, 1, "1001-1001");
            due(x.knotIs(0, 0, 5), 0);
        });
        kept("a PRICE of 60 bytes, its last one", x -> text(x, 1, "1+".repeat(28) + "0007"), x -> x.untell(1), x -> {
            x.ship(5, 6);
            due(x.knotIs(0, 0, 5), 35);
        });
        kept("BLOWS of 60 bytes, its last one", x -> text(x, 0, "0+".repeat(28) + "0007"), x -> text(x, 0, "0"), x -> {
            lone(x);
            x.tie(0, 0, 60, 0);
            due(x.loose(0, 0), 7);
        });
        kept("24 numbers that wait, the last one", x -> {
            told(x, 23);
            x.tell(5);
        }, x -> {
            x.check();
            told(x, 24);
        }, x -> due(x.check(), 24));
        kept("24 numbers that wait, the first one", x -> {
            x.tell(5);
            told(x, 23);
        }, x -> {
            x.check();
            told(x, 24);
        }, x -> due(x.check(), 1));
    }

    private static void eachCell(KnottedWinds x, int rest) {
        for (int cell = 0; cell < 64; cell++) {
            x.land(cell, cell / 8 % 2 == rest ? 0 : 1);
        }
    }

    private static void notKept() {
        edge("it isn't kept: SHEETS, one that is there", x -> {
            x.sheet(0, 8, 3);
            x.image();
            x.sheet(0, 16, 2);
            x.put(0, 0, 64);
            x.restore();
            due(x.lands(0), 0);
            due(x.put(0, 2, 1), BEYOND);
        });
        edge("it isn't kept: SHEETS, one that is missing then", x -> {
            x.sheet(0, 8, 3);
            x.image();
            x.sheet(0, 0, 0);
            x.restore();
            due(x.lands(0), NONE);
        });
        for (int sheet = 0; sheet < 4; sheet++) {
            int s = sheet;
            edge("it isn't kept: SHEET " + s + ", its length and its numbers", x -> {
                x.sheet(s, 8, 1);
                x.image();
                x.sheet(s, 32, 24);
                for (int i = 0; i < 24; i++) {
                    x.put(s, i, 40 + i);
                }
                x.restore();
                due(x.put(s, 24, 1), BEYOND);
                due(x.lands(s), 24);
                for (int cell = 0; cell < 64; cell++) {
                    due("LAND in CELL " + cell, x.land(cell, 0), cell < 40 ? 0 : 1);
                }
            });
            edge("it isn't kept: SHEET " + s + ", missing ahead of it", x -> {
                x.image();
                x.sheet(s, 8, 1);
                x.restore();
                due(x.lands(s), 1);
            });
        }
        edge("it isn't kept: THE TRACE", x -> {
            x.ship(5, 6);
            x.voice(0, 0, 0, 1);
            x.image();
            x.voice(0, 0, 1, 1);
            x.restore();
            due(x.count(8), 2);
            due(x.body(0), 11);
        });
        edge("it isn't kept: THE TRACE, though its SHIP is gone", x -> {
            x.image();
            x.ship(5, 6);
            x.voice(0, 0, 1, 1);
            x.restore();
            due(x.count(8), 2);
            due(x.body(1), 10);
        });
        edge("it isn't kept: what told() tells", x -> {
            x.told(0);
            x.image();
            x.told(0);
            x.wind(2);
            x.restore();
            due(x.told(1), 3);
        });
    }

    private static void restore() {
        promise(32);
        refused("there is none", NONE, x -> {
            fleet(x, 2);
            x.hours(7);
        }, x -> x.restore());
        edge("there is none, again", x -> {
            due(x.restore(), NONE);
            due(x.restore(), NONE);
            due(x.told(2), 2);
            due(x.image(), 1);
            due(x.restore(), 0);
        });
        edge("HOUR 0, the least", x -> {
            x.image();
            x.hours(9);
            due(x.restore(), 0);
        });
        edge("HOUR 9999, the most", x -> {
            till(x, 9999);
            x.image();
            due(x.restore(), 9999);
        });
        onlyAsks("at once: nothing is changed", 8, both(Edges::some, x -> x.image()), x -> x.restore());
        edge("the IMAGE stays: what is done behind restore() isn't done in it", x -> {
            some(x);
            x.restore();
            x.hours(5);
            x.land(0, 1);
            x.bring(0, 40);
            due(x.restore(), 7);
            due(x.shipIs(0, 0), 0);
            due(x.land(0, 0), 0);
        });
        edge("a SHIP behind the IMAGE is gone", x -> {
            fleet(x, 2);
            x.image();
            x.ship(5, 6);
            x.tie(2, 0, 69, 3);
            x.restore();
            due(x.shipIs(2, 0), BEYOND);
            due(x.ship(7, 8), 2);
            due(x.tie(2, 0, 0, 0), 0);
        });
    }

    private static void told(KnottedWinds x, int numbers) {
        for (int i = 0; i < numbers; i++) {
            x.tell(0);
        }
    }

    private static void tell() {
        promise(33);
        edge("the first: 1", x -> due(x.tell(7), 1));
        edge("the 24th, all places taken", x -> {
            told(x, 23);
            due(x.tell(7), 24);
            due(x.count(7), 24);
        });
        refused("the 25th", FULL, both(Edges::some, x -> told(x, 22)), x -> x.tell(7));
        refused("the least number, if 24 wait", FULL, x -> told(x, 24), x -> x.tell(LEAST));
        edge("behind FULL all 24 wait as they were told", x -> {
            told(x, 24);
            due(x.tell(7), FULL);
            due(x.count(7), 24);
            due(x.check(), 0);
        });
        edge("behind check() 24 more may wait", x -> {
            told(x, 24);
            x.check();
            due(x.tell(7), 1);
            told(x, 22);
            due(x.tell(7), 24);
            due(x.tell(7), FULL);
        });
        for (int v : new int[] {LEAST, MOST, -1, PARTED}) {
            edge("any number: " + v, x -> {
                due(x.tell(v), 1);
                due(x.check(), 1);
                due(x.told(6), 0);
            });
        }
    }

    private static void check() {
        promise(34);
        edge("none waits: 0", x -> due(x.check(), 0));
        edge("none waits behind it", x -> {
            told(x, 3);
            due(x.check(), 0);
            due(x.count(7), 0);
            due(x.check(), 0);
        });
        edge("none waits behind it, if one isn't so", x -> {
            x.tell(1);
            x.tell(1);
            due(x.check(), 1);
            due(x.count(7), 0);
            due(x.check(), 0);
        });
        for (int n : new int[] {1, 2, 23, 24}) {
            edge("none of " + n + " waits behind it", x -> {
                told(x, n);
                due(x.check(), 0);
                due(x.count(7), 0);
                due(x.tell(0), 1);
            });
            edge("none of " + n + " waits behind it, if the last isn't so", x -> {
                told(x, n - 1);
                x.tell(1);
                due(x.check(), n);
                due(x.count(7), 0);
                due(x.tell(0), 1);
            });
        }
        edge("the first isn't so: 1 and 0", x -> checks(x, 1, 1, 0, 0, 0));
        edge("the second isn't so: 1 and 1", x -> checks(x, 2, 0, 1, 0, 0));
        edge("the last isn't so", x -> checks(x, 4, 0, 0, 0, 1));
        edge("the first of several that aren't so", x -> checks(x, 2, 0, 1, 0, 1));
        edge("24 numbers, the most: all are so", x -> {
            told(x, 24);
            due(x.check(), 0);
        });
        edge("24 numbers: the last isn't so", x -> {
            told(x, 23);
            x.tell(1);
            due(x.check(), 24);
        });
        edge("100 times EAST, and SOUTH", x -> {
            x.drift(0, 3);
            x.drift(1, 4);
            checks(x, 0, 304, 304);
        });
        edge("EAST below 0", x -> {
            x.drift(0, -3);
            x.drift(1, 4);
            checks(x, 0, -296);
        });
        edge("SOUTH below 0", x -> {
            x.drift(0, 3);
            x.drift(1, -4);
            checks(x, 0, 296);
        });
        edge("both 9, the most of DRIFT", x -> {
            x.drift(0, 9);
            x.drift(1, 9);
            checks(x, 0, 909);
        });
        edge("both -9, the least of DRIFT", x -> {
            x.drift(0, -9);
            x.drift(1, -9);
            checks(x, 0, -909);
        });
        edge("HOUR 0 is now, HOUR 1 the next: a KNOT's three HOURS", x -> {
            lone(x);
            x.tie(0, 0, 7, EAST);
            x.loose(0, 0);
            checks(x, 0, 700, 700, 700, 0, 0);
        });
        edge("nothing more is loosed, no HOUR goes by", x -> {
            lone(x);
            x.tie(0, 0, 7, EAST);
            checks(x, 0, 0, 0, 0);
            due(x.count(1), 6);
            due(x.knotIs(0, 0, 3), -1);
        });
        edge("beyond HOUR 9999, too", x -> {
            x.ship(0, 63);
            till(x, 9999);
            x.tie(0, 0, 7, EAST);
            x.loose(0, 0);
            checks(x, 0, 700, 700, 700, 0, 0);
        });
        edge("WINDS of when it is asked, not of when they were told", x -> {
            x.tell(300);
            x.drift(0, 3);
            due(x.check(), 0);
        });
    }

    private static void checks(KnottedWinds x, int want, int... numbers) {
        for (int v : numbers) {
            x.tell(v);
        }
        due(x.check(), want);
    }

    private static void counts(String of, int what, int want, Run ahead) {
        onlyAsks("what " + what + ": " + of, want, ahead, x -> x.count(what));
    }

    private static void count() {
        promise(35);
        beyond("what", 0, 11, (x, v) -> x.count(v));
        counts("no SHIPS", 0, 0, Edges::nothing);
        counts("five SHIPS, the most", 0, 5, x -> fleet(x, 5));
        counts("HOUR 0, the least", 1, 0, Edges::nothing);
        counts("HOUR 9999, the most", 1, 9999, x -> till(x, 9999));
        int[] hours = {0, 5, 6, 7, 12, 16, 17, 18, 19, 23, 24, 29, 30, 41, 42, 47, 48, 9989, 9990, 9999};
        int[] days = {0, 0, 1, 1, 1, 1, 1, 0, 0, 0, 0, 0, 1, 1, 0, 0, 0, 0, 1, 1};
        for (int i = 0; i < hours.length; i++) {
            int hour = hours[i];
            counts((days[i] == 1 ? "DAY in HOUR " : "night in HOUR ") + hour, 2, days[i], x -> till(x, hour));
        }
        counts("none is HOME", 3, 0, x -> fleet(x, 5));
        counts("one is HOME, not the WRECKED one", 3, 1, Edges::some);
        counts("all five are HOME", 3, 5, x -> {
            for (int i = 0; i < 5; i++) {
                x.ship(i, i);
            }
        });
        counts("none is WRECKED", 4, 0, x -> fleet(x, 5));
        counts("one is WRECKED, not the HOME one", 4, 1, Edges::some);
        counts("all five are WRECKED", 4, 5, x -> {
            fleet(x, 5);
            for (int i = 0; i < 5; i++) {
                x.land(8 * i + 1, 1);
            }
            x.drift(0, 3);
            x.hours(1);
        });
        counts("none is TIED, without SHIPS", 5, 0, Edges::nothing);
        counts("three are TIED of one SHIP", 5, 3, x -> fleet(x, 1));
        counts("fifteen are TIED, the most", 5, 15, x -> fleet(x, 5));
        counts("none is TIED, all being loosed", 5, 0, x -> {
            lone(x);
            for (int knot = 0; knot < 3; knot++) {
                x.loose(0, knot);
            }
        });
        counts("no bytes", 6, 0, Edges::nothing);
        counts("60 bytes, the most", 6, 60, x -> feed(x, "1+".repeat(30)));
        counts("no numbers wait", 7, 0, Edges::nothing);
        counts("24 numbers wait, the most", 7, 24, x -> told(x, 24));
        counts("no BODIES yet", 8, 0, x -> fleet(x, 1));
        counts("one BODY", 8, 1, x -> spoken(x, 0));
        counts("six BODIES, the most of a VOICE", 8, 6, x -> spoken(x, 2));
        counts("z is 1 at first", 9, 1, Edges::nothing);
        counts("z 0", 9, 0, x -> x.seed(0));
        counts("z is any number, the least", 9, LEAST, x -> x.seed(LEAST));
        counts("z is any number, the most", 9, MOST, x -> x.seed(MOST));
        counts("z is any number: BEYOND, and no ERROR", 9, BEYOND, x -> x.seed(BEYOND));
        for (int what = 10; what < 12; what++) {
            int axis = what - 10;
            counts("DRIFT is 0", what, 0, Edges::nothing);
            counts("DRIFT is -9, the least", what, -9, x -> x.drift(axis, -9));
            counts("DRIFT is 9, the most", what, 9, x -> x.drift(axis, 9));
            counts("DRIFT alone, no KNOT's FORCE", what, 0, x -> {
                lone(x);
                x.tie(0, 0, 5, axis == 0 ? EAST : SOUTH);
                x.loose(0, 0);
            });
        }
    }

    private static void spoken(KnottedWinds x, int voice) {
        x.ship(5, 6);
        x.tie(0, 0, voice == 0 ? 0 : 40, 0);
        x.voice(0, 0, voice, 1);
    }

    private static void told() {
        promise(36);
        for (int k = 1; k <= 6; k++) {
            int error = k;
            edge("k " + k + ": none yet, one, two", x -> {
                x.ship(0, 63);
                due(x.told(error), 0);
                due(asked(x, error), LOW - error);
                due(x.told(error), 1);
                due(asked(x, error), LOW - error);
                due(x.told(error), 2);
            });
            edge("k " + k + ": no other ERROR is counted", x -> {
                x.ship(0, 63);
                asked(x, error);
                for (int other = 1; other <= 6; other++) {
                    due("told(" + other + ")", x.told(other), other == error ? 1 : 0);
                }
            });
        }
        beyond("k", 1, 6, (x, v) -> x.told(v));
        edge("another k is counted, too", x -> {
            due(x.told(0), BEYOND);
            due(x.told(7), BEYOND);
            due(x.told(1), 2);
        });
        edge("telling is no ERROR", x -> {
            x.told(0);
            x.told(1);
            due(x.told(1), 1);
        });
        edge("a FAULT is no ERROR", x -> {
            x.text(0);
            for (int k = 1; k <= 6; k++) {
                due("told(" + k + ")", x.told(k), 0);
            }
        });
        edge("507 of them", x -> {
            for (int i = 0; i < 507; i++) {
                x.restore();
            }
            due(x.told(2), 507);
        });
        edge("of two objects each has its own", x -> {
            x.told(0);
            KnottedWinds y = new KnottedWinds();
            due(y.told(1), 0);
            y.told(0);
            y.told(0);
            due(x.told(1), 1);
        });
    }

    /** A call that answers LOW - k, of an object that has one SHIP with KNOTS of m 0, by night. */
    private static int asked(KnottedWinds x, int k) {
        switch (k) {
            case 1:
                return x.wind(2);
            case 2:
                return x.lands(3);
            case 3:
                return x.loose(0, 0);
            case 4:
                for (int bytes = x.count(6); bytes < 60; bytes++) {
                    x.feed(0, 1);
                }
                return x.feed(0, 1);
            case 5:
                return x.as(0, 0, 1);
            default:
                return x.voice(0, 0, 3, 1);
        }
    }

    public static void main(String[] args) {
        image();
        restore();
        tell();
        check();
        count();
        told();
        end();
    }
}
