/** Promises 26 to 30, each boundary case by itself: SHEETS. SHIP 0 is there to read them by. */
public final class EdgeSheetTest extends Edges {
    private static final int[] NO_BITS = {-32, -16, -8, -1, 1, 4, 7, 9, 12, 15, 17, 24, 31, 33, 40, 64, LEAST, MOST};

    /** That a SHEET has just these numbers, in 0 .. 63: each is moved to SHEET 3, and told by where SHIP 0 lies. */
    private static void holds(KnottedWinds x, int sheet, int bits, int... numbers) {
        for (int i = 0; i < numbers.length; i++) {
            x.sheet(3, bits, 1);
            due("number " + i + " is moved", x.move(sheet, i, 3, 0, 1), 1);
            x.bring(0, numbers[i]);
            due("number " + i + " is " + numbers[i], x.judge(3, 0), 1);
        }
        due("a number behind the last", x.put(sheet, numbers.length, 0), BEYOND);
    }

    private static void begin(KnottedWinds x, int sheet, int bits, int... numbers) {
        x.sheet(sheet, bits, numbers.length);
        for (int i = 0; i < numbers.length; i++) {
            x.put(sheet, i, numbers[i]);
        }
    }

    /** A SHIP, and SHEETS 0 and 1 of 8 bits, 2 of 16. */
    private static void three(KnottedWinds x) {
        x.ship(5, 6);
        begin(x, 0, 8, 10, 11, 12, 13, 14);
        begin(x, 1, 8, 20, 21, 22);
        begin(x, 2, 16, 30, 31);
    }

    private static void sheet() {
        promise(26);
        for (int sheet = 0; sheet < 4; sheet++) {
            int s = sheet;
            edge("SHEET " + s + " of 0 .. 3", x -> {
                due(x.sheet(s, 8, 2), 1);
                for (int other = 0; other < 4; other++) {
                    due("lands(" + other + ")", x.lands(other), other == s ? 2 : NONE);
                }
            });
        }
        beyond("SHEET", 0, 3, (x, v) -> x.sheet(v, 8, 2));
        beyond("bits 0, SHEET", 0, 3, (x, v) -> x.sheet(v, 0, 2));
        beyond("n -1, BEYOND is asked ahead of STATE, SHEET", 0, 3, (x, v) -> x.sheet(v, 8, -1));
        for (int bits : NO_BITS) {
            refused("bits " + bits, BEYOND, x -> x.sheet(0, bits, 2));
            refused("bits " + bits + ": BEYOND is asked ahead of STATE", BEYOND, x -> x.sheet(0, bits, -1));
        }
        for (int bits : new int[] {8, 16, 32}) {
            edge("n 0 of " + bits + " bits, the least: it is there, and has no number", x -> {
                due(x.sheet(0, bits, 0), 1);
                due(x.lands(0), 0);
                due(x.put(0, 0, 1), BEYOND);
            });
            edge("n 1 of " + bits + " bits", x -> {
                due(x.sheet(0, bits, 1), 1);
                due(x.put(0, 0, 1), 1);
                due(x.put(0, 1, 1), BEYOND);
            });
            edge("n 24 of " + bits + " bits, the most: all 0", x -> {
                due(x.sheet(0, bits, 24), 1);
                due(x.lands(0), 24);
                due("LAND", x.land(0, 0), 1);
                due(x.put(0, 23, 1), 1);
                due(x.put(0, 24, 1), BEYOND);
            });
            refused("n 25 of " + bits + " bits", BEYOND, x -> x.sheet(0, bits, 25));
            refused("n -1 of " + bits + " bits", STATE, x -> x.sheet(0, bits, -1));
            refused("the least n there is of " + bits + " bits: STATE ahead of BEYOND of n", STATE,
                x -> x.sheet(0, bits, LEAST));
            refused("the most n there is of " + bits + " bits", BEYOND, x -> x.sheet(0, bits, MOST));
            refused("n -1 of " + bits + " bits, of a missing one", STATE, x -> x.sheet(3, bits, -1));
            refused("n 25 of " + bits + " bits, of a missing one", BEYOND, x -> x.sheet(3, bits, 25));
        }
        missing();
        edge("anew: all 0 again", x -> {
            three(x);
            due(x.sheet(0, 8, 5), 1);
            holds(x, 0, 8, 0, 0, 0, 0, 0);
        });
        for (int i = 0; i < 24; i++) {
            int last = i;
            edge("anew: number " + i + " of 24 is 0 again", x -> {
                x.sheet(0, 8, 24);
                x.put(0, last, 64);
                due(x.lands(0), last);
                due(x.sheet(0, 8, 24), 1);
                due(x.lands(0), 24);
            });
        }
        edge("anew, with fewer and then with more numbers: all 0", x -> {
            three(x);
            x.sheet(0, 8, 1);
            x.sheet(0, 8, 5);
            holds(x, 0, 8, 0, 0, 0, 0, 0);
        });
        edge("anew, missing between", x -> {
            three(x);
            x.sheet(0, 0, 0);
            x.sheet(0, 8, 5);
            holds(x, 0, 8, 0, 0, 0, 0, 0);
        });
        edge("anew, of other bits", x -> {
            three(x);
            x.sheet(0, 16, 2);
            due(x.move(0, 0, 1, 0, 1), KIND);
            due(x.move(2, 0, 0, 0, 1), 1);
            holds(x, 0, 16, 30, 0);
        });
        edge("the others stay", x -> {
            three(x);
            x.sheet(0, 8, 5);
            holds(x, 1, 8, 20, 21, 22);
            holds(x, 2, 16, 30, 31);
        });
    }

    private static void missing() {
        for (int n : new int[] {0, 1, 24, 25, -1, LEAST, MOST}) {
            edge("bits 0, n " + n + " doesn't matter: it is missing", x -> {
                three(x);
                due(x.sheet(0, 0, n), 1);
                due(x.lands(0), NONE);
                due(x.put(0, 0, 1), NONE);
            });
        }
        edge("bits 0 of a missing one", x -> {
            due(x.sheet(3, 0, 0), 1);
            due(x.lands(3), NONE);
        });
    }

    private static void put() {
        promise(27);
        beyond("SHEET", 0, 3, (x, v) -> x.put(v, 0, 1));
        for (int i : new int[] {0, -1, 24, LEAST, MOST}) {
            refused("it is missing: NONE is asked ahead of BEYOND of number " + i, NONE, x -> x.put(3, i, 1));
        }
        edge("number 0, the first", x -> {
            three(x);
            due(x.put(0, 0, 63), 1);
            holds(x, 0, 8, 63, 11, 12, 13, 14);
        });
        edge("number 4 of five, the last", x -> {
            three(x);
            due(x.put(0, 4, 63), 1);
            holds(x, 0, 8, 10, 11, 12, 13, 63);
        });
        edge("number 23 of 24, the last of all", x -> {
            x.ship(5, 6);
            x.sheet(0, 8, 24);
            due(x.put(0, 23, 63), 1);
            x.sheet(3, 8, 1);
            x.move(0, 23, 3, 0, 1);
            x.bring(0, 63);
            due(x.judge(3, 0), 1);
        });
        refused("number -1", BEYOND, x -> x.put(0, -1, 1));
        refused("number 4 of four", BEYOND, x -> x.put(0, 4, 1));
        refused("number 24 of 24", BEYOND, x -> x.sheet(0, 8, 24), x -> x.put(0, 24, 1));
        refused("number 0 of none", BEYOND, x -> x.sheet(0, 8, 0), x -> x.put(0, 0, 1));
        refused("the least number there is", BEYOND, x -> x.put(0, LEAST, 1));
        refused("the most number there is", BEYOND, x -> x.put(0, MOST, 1));
        edge("the other SHEETS stay", x -> {
            three(x);
            x.put(0, 0, 63);
            holds(x, 1, 8, 20, 21, 22);
        });
        putsBits();
    }

    /** What is put is one of 0 .. 63 by its lowest bits, or no CELL (-1). */
    private static void becomes(int bits, int v, int want) {
        edge(v + " in " + bits + " bits is " + (want < 0 ? "no CELL" : "" + want), x -> {
            x.ship(5, 6);
            x.sheet(0, bits, 1);
            due(x.put(0, 0, v), 1);
            if (want < 0) {
                due("lands(0)", x.lands(0), 0);
            } else {
                holds(x, 0, bits, want);
            }
        });
    }

    private static void putsBits() {
        becomes(8, 63, 63);
        becomes(8, 64, -1);
        becomes(8, 127, -1);
        becomes(8, 128, -1);
        becomes(8, 255, -1);
        becomes(8, 256, 0);
        becomes(8, 256 + 63, 63);
        becomes(8, 256 + 64, -1);
        becomes(8, 65536 + 63, 63);
        becomes(8, -1, -1);
        becomes(8, -256, 0);
        becomes(8, -193, 63);
        becomes(8, LEAST, 0);
        becomes(8, LEAST + 63, 63);
        becomes(8, MOST, -1);
        becomes(16, 63, 63);
        becomes(16, 64, -1);
        becomes(16, 256, -1);
        becomes(16, 256 + 63, -1);
        becomes(16, 32768, -1);
        becomes(16, 65535, -1);
        becomes(16, 65536, 0);
        becomes(16, 65536 + 63, 63);
        becomes(16, 65536 + 64, -1);
        becomes(16, -1, -1);
        becomes(16, -256, -1);
        becomes(16, -65536, 0);
        becomes(16, -65536 + 63, 63);
        becomes(16, LEAST + 63, 63);
        becomes(16, MOST, -1);
        becomes(32, 63, 63);
        becomes(32, 64, -1);
        becomes(32, 256, -1);
        becomes(32, 65536, -1);
        becomes(32, 65536 + 63, -1);
        becomes(32, -1, -1);
        becomes(32, -65536, -1);
        becomes(32, LEAST, -1);
        becomes(32, LEAST + 63, -1);
        becomes(32, MOST, -1);
    }

    private static void move() {
        promise(28);
        beyond("SHEET", 0, 3, (x, v) -> x.move(v, 0, 0, 0, 1));
        beyond("the other SHEET", 0, 3, (x, v) -> x.move(0, 0, v, 0, 1));
        beyond("the other is missing, BEYOND is asked ahead of NONE, SHEET", 0, 3, (x, v) -> x.move(v, 0, 3, 0, 1));
        beyond("one is missing, BEYOND is asked ahead of NONE, the other SHEET", 0, 3,
            (x, v) -> x.move(3, 0, v, 0, 1));
        refused("the SHEET is missing", NONE, x -> x.move(3, 0, 0, 0, 1));
        refused("the other SHEET is missing", NONE, x -> x.move(0, 0, 3, 0, 1));
        refused("both are missing", NONE, x -> x.move(3, 0, 3, 0, 0));
        refused("NONE is asked ahead of BEYOND of numbers", NONE, x -> x.move(0, -1, 3, -1, -1));
        refused("NONE of the SHEET is asked ahead of BEYOND of numbers", NONE, x -> x.move(3, -1, 0, -1, -1));
        refused("unlike bits, 8 and 16", KIND, x -> x.move(0, 0, 1, 0, 1));
        refused("unlike bits, 16 and 8", KIND, x -> x.move(1, 0, 0, 0, 1));
        refused("unlike bits, 16 and 32", KIND, both(Edges::some, x -> x.sheet(3, 32, 3)), x -> x.move(1, 0, 3, 0, 1));
        refused("unlike bits, 8 and 32", KIND, both(Edges::some, x -> x.sheet(3, 32, 3)), x -> x.move(0, 0, 3, 0, 1));
        refused("unlike bits, no number being moved", KIND, x -> x.move(0, 0, 1, 0, 0));
        refused("KIND is asked ahead of BEYOND of numbers", KIND, x -> x.move(0, -1, 1, -1, -1));
        refused("KIND is asked ahead of BEYOND of too many", KIND, x -> x.move(0, 0, 1, 0, MOST));
        refusedNumbers();
        movedNumbers();
        movedWithin();
    }

    /** SHEET 0 has four numbers, SHEET 2 two. */
    private static void refusedNumbers() {
        refused("n -1", BEYOND, x -> x.move(0, 1, 2, 1, -1));
        refused("the least n there is", BEYOND, x -> x.move(0, 0, 2, 0, LEAST));
        refused("the most n there is", BEYOND, x -> x.move(0, 0, 2, 0, MOST));
        refused("i -1", BEYOND, x -> x.move(0, -1, 2, 0, 1));
        refused("i -1, n 0", BEYOND, x -> x.move(0, -1, 2, 0, 0));
        refused("the least i there is", BEYOND, x -> x.move(0, LEAST, 2, 0, 1));
        refused("the most i there is", BEYOND, x -> x.move(0, MOST, 2, 0, 1));
        refused("j -1", BEYOND, x -> x.move(0, 0, 2, -1, 1));
        refused("j -1, n 0", BEYOND, x -> x.move(0, 0, 2, -1, 0));
        refused("the least j there is", BEYOND, x -> x.move(0, 0, 2, LEAST, 1));
        refused("the most j there is", BEYOND, x -> x.move(0, 0, 2, MOST, 1));
        refused("i and n together wrap around", BEYOND, x -> x.move(0, MOST, 2, 0, 2));
        refused("j and n together wrap around", BEYOND, x -> x.move(0, 0, 2, MOST, 2));
        refused("i and n, each the most", BEYOND, x -> x.move(0, MOST, 0, MOST, MOST));
        refused("i 4 of four", BEYOND, x -> x.move(0, 4, 2, 0, 1));
        refused("i 3, n 2 of four", BEYOND, x -> x.move(0, 3, 2, 0, 2));
        refused("n 5 of four, to the same one", BEYOND, x -> x.move(0, 0, 0, 0, 5));
        refused("j 2 of two", BEYOND, x -> x.move(0, 0, 2, 2, 1));
        refused("j 1, n 2 of two", BEYOND, x -> x.move(0, 0, 2, 1, 2));
        refused("n 3 to two", BEYOND, x -> x.move(0, 0, 2, 0, 3));
        refused("n 3 of two", BEYOND, x -> x.move(2, 0, 0, 0, 3));
        refused("n 1 of a SHEET of none", BEYOND, both(Edges::some, x -> x.sheet(2, 8, 0)),
            x -> x.move(2, 0, 0, 0, 1));
        refused("n 1 to a SHEET of none", BEYOND, both(Edges::some, x -> x.sheet(2, 8, 0)),
            x -> x.move(0, 0, 2, 0, 1));
    }

    private static void moved(String of, int i, int other, int j, int n, int[] zero, int[] one) {
        edge(of, x -> {
            three(x);
            due("move", x.move(0, i, other, j, n), n);
            holds(x, 0, 8, zero);
            holds(x, 1, 8, one);
        });
    }

    private static int[] of(int... numbers) {
        return numbers;
    }

    private static void movedNumbers() {
        int[] zero = {10, 11, 12, 13, 14};
        int[] one = {20, 21, 22};
        moved("n 0, the least", 0, 1, 0, 0, zero, one);
        moved("n 0 at the end of both", 5, 1, 3, 0, zero, one);
        moved("n 1, the first to the first", 0, 1, 0, 1, zero, of(10, 21, 22));
        moved("n 1, the last to the last", 4, 1, 2, 1, zero, of(20, 21, 14));
        moved("n 1, the first to the last", 0, 1, 2, 1, zero, of(20, 21, 10));
        moved("n 3, all that the other one has", 0, 1, 0, 3, zero, of(10, 11, 12));
        moved("n 3, the last three", 2, 1, 0, 3, zero, of(12, 13, 14));
        moved("n 2 to the last two", 3, 1, 1, 2, zero, of(20, 13, 14));
        edge("n 0 of SHEETS of none", x -> {
            x.sheet(0, 8, 0);
            x.sheet(1, 8, 0);
            due(x.move(0, 0, 1, 0, 0), 0);
        });
        edge("n 24, the most", x -> {
            x.ship(5, 6);
            x.sheet(0, 16, 24);
            x.sheet(1, 16, 24);
            for (int i = 0; i < 24; i++) {
                x.put(0, i, i + 1);
            }
            due(x.move(0, 0, 1, 0, 24), 24);
            due(x.lands(1), 24);
            for (int cell = 0; cell < 26; cell++) {
                due("LAND in CELL " + cell, x.land(cell, 0), cell >= 1 && cell <= 24 ? 1 : 0);
            }
        });
        for (int bits : new int[] {8, 16, 32}) {
            edge("of " + bits + " bits a number stays whole", x -> {
                x.ship(5, 6);
                begin(x, 0, bits, 1 << (bits - 1), 7);
                begin(x, 1, bits, 8, 9);
                due(x.move(0, 0, 1, 1, 1), 1);
                due("number 0 is a CELL, number 1 is none", x.lands(1), 1);
                due(x.move(0, 1, 1, 1, 1), 1);
                due("both are CELLS", x.lands(1), 2);
            });
        }
    }

    private static void movedWithin() {
        int[] one = {20, 21, 22};
        moved("to the same one, where they were", 1, 0, 1, 3, of(10, 11, 12, 13, 14), one);
        moved("to the same one, all of it", 0, 0, 0, 5, of(10, 11, 12, 13, 14), one);
        moved("to the same one, one place on: as they all were", 0, 0, 1, 4, of(10, 10, 11, 12, 13), one);
        moved("to the same one, one place back: as they all were", 1, 0, 0, 4, of(11, 12, 13, 14, 14), one);
        moved("to the same one, two places on", 0, 0, 2, 3, of(10, 11, 10, 11, 12), one);
        moved("to the same one, two places back", 2, 0, 0, 3, of(12, 13, 14, 13, 14), one);
        moved("to the same one, the first to the last", 0, 0, 4, 1, of(10, 11, 12, 13, 10), one);
    }

    private static void lands() {
        promise(29);
        beyond("SHEET", 0, 3, (x, v) -> x.lands(v));
        refused("the SHEET is missing", NONE, x -> x.lands(3));
        edge("SHEET 3, the last", x -> {
            begin(x, 3, 8, 9);
            due(x.lands(3), 1);
            due(x.land(9, 0), 1);
        });
        edge("no numbers: 0", x -> {
            begin(x, 0, 8);
            due(x.lands(0), 0);
        });
        edge("24 numbers, the most", x -> {
            x.sheet(0, 8, 24);
            for (int i = 0; i < 24; i++) {
                x.put(0, i, 40 + i);
            }
            due(x.lands(0), 24);
            for (int cell = 0; cell < 64; cell++) {
                due("LAND in CELL " + cell, x.land(cell, 0), cell >= 40 ? 1 : 0);
            }
        });
        edge("CELL 0, the first", x -> {
            begin(x, 0, 8, 0);
            due(x.lands(0), 1);
            due(x.land(0, 0), 1);
        });
        edge("CELL 63, the last", x -> {
            begin(x, 0, 8, 63);
            due(x.lands(0), 1);
            due(x.land(63, 0), 1);
        });
        noCell("64, the first that is no CELL", 8, 64);
        noCell("255", 8, 255);
        noCell("-1 of 8 bits", 8, -1);
        noCell("65535", 16, 65535);
        noCell("-1 of 16 bits", 16, -1);
        noCell("64 of 32 bits", 32, 64);
        noCell("-1 of 32 bits", 32, -1);
        for (int more : new int[] {128, 256, 65536, LEAST}) {
            noCell(more + " more than a CELL", 32, 5 + more);
        }
        noCell("256 more than a CELL, of 16 bits", 16, 261);
        noCell("the least there is", 32, LEAST);
        noCell("the most there is", 32, MOST);
        edge("the first is no CELL: 0, and none becomes LAND", x -> {
            begin(x, 0, 8, 64, 9, 10);
            due(x.lands(0), 0);
            due(x.land(9, 0), 0);
            due(x.land(10, 0), 0);
        });
        edge("the last is no CELL", x -> {
            begin(x, 0, 8, 9, 10, 64);
            due(x.lands(0), 2);
            due(x.land(9, 0), 1);
            due(x.land(10, 0), 1);
        });
        edge("LAND that was there stays", x -> {
            x.land(7, 1);
            begin(x, 0, 8, 9);
            x.lands(0);
            due(x.land(7, 0), 1);
        });
        edge("one that is LAND already is LAND", x -> {
            x.land(9, 1);
            begin(x, 0, 8, 9, 10);
            due(x.lands(0), 2);
            due(x.land(9, 0), 1);
        });
        edge("LAND under a SHIP does it no harm", x -> {
            x.ship(9, 63);
            begin(x, 0, 8, 9);
            x.lands(0);
            x.hours(1);
            due(x.shipIs(0, 2), 0);
        });
        edge("the SHEET stays", x -> {
            three(x);
            x.lands(0);
            holds(x, 0, 8, 10, 11, 12, 13, 14);
        });
    }

    private static void noCell(String of, int bits, int v) {
        edge(of + ": up to it, and it is no ERROR", x -> {
            begin(x, 0, bits, 9, v, 10);
            due(x.lands(0), 1);
            for (int k = 1; k <= 6; k++) {
                due("told(" + k + ")", x.told(k), 0);
            }
            for (int cell = 0; cell < 64; cell++) {
                due("LAND in CELL " + cell, x.land(cell, 0), cell == 9 ? 1 : 0);
            }
        });
    }

    /** A SHIP that DRIFT brings from CELL 0 to 7, and SHEET 0 with its course as far as it goes. */
    private static Run course(int... numbers) {
        return x -> {
            x.ship(0, 63);
            x.drift(0, 3);
            begin(x, 0, 8, numbers);
        };
    }

    private static void judge() {
        promise(30);
        beyond("SHEET", 0, 3, (x, v) -> x.judge(v, 0));
        beyondShips((x, v) -> x.judge(0, v));
        beyond("the SHEET is missing, BEYOND is asked ahead of NONE, SHIP of three", 0, 2, (x, v) -> x.judge(3, v));
        refused("SHIP 0 of none, the SHEET being there", BEYOND, x -> x.sheet(0, 8, 1), x -> x.judge(0, 0));
        refused("the SHEET is missing", NONE, x -> x.judge(3, 0));
        onlyAsks("no numbers: 0, as many as there are", 0, course(), x -> x.judge(0, 0));
        onlyAsks("number 0 is behind 0 HOURS: now", 1, course(0), x -> x.judge(0, 0));
        onlyAsks("number 0 isn't so", 0, course(1), x -> x.judge(0, 0));
        onlyAsks("number 1 is behind 1 HOUR", 2, course(0, 1), x -> x.judge(0, 0));
        onlyAsks("number 1 isn't so", 1, course(0, 0), x -> x.judge(0, 0));
        onlyAsks("the last isn't so", 4, course(0, 1, 2, 3, 5), x -> x.judge(0, 0));
        onlyAsks("the first of several that aren't so", 2, course(0, 1, 7, 3, 7), x -> x.judge(0, 0));
        onlyAsks("24 numbers, the most: all are so", 24, courseOf24(7), x -> x.judge(0, 0));
        onlyAsks("24 numbers: but the last", 23, courseOf24(6), x -> x.judge(0, 0));
        onlyAsks("a number that is no CELL", 1, course(0, 64), x -> x.judge(0, 0));
        onlyAsks("a number of 255", 1, course(0, 255), x -> x.judge(0, 0));
        for (int more : new int[] {64, 128, 256, 65536, LEAST}) {
            onlyAsks("a number that is " + more + " more than the CELL", 1, x -> {
                x.ship(0, 63);
                x.drift(0, 3);
                begin(x, 0, 32, 0, 1 + more, 2);
            }, x -> x.judge(0, 0));
        }
        onlyAsks("a number of 8 bits: only its lowest bits count", 3, course(256, 257, -254), x -> x.judge(0, 0));
        onlyAsks("the HOURS of a KNOT that was loosed: two more of three", 6, x -> {
            lone(x);
            x.tie(0, 0, 3, EAST);
            x.loose(0, 0);
            x.hours(1);
            begin(x, 0, 8, 1, 2, 3, 3, 3, 3);
        }, x -> x.judge(0, 0));
        onlyAsks("a WRECKED one stays", 4, x -> {
            course(0, 1, 1, 1).on(x);
            x.land(1, 1);
        }, x -> x.judge(0, 0));
        onlyAsks("a HOME one stays", 4, x -> {
            x.ship(0, 1);
            x.drift(0, 3);
            begin(x, 0, 8, 0, 1, 1, 1);
        }, x -> x.judge(0, 0));
        onlyAsks("SHIP 4, the last of five, and SHEET 3, the last", 2, x -> {
            fleet(x, 5);
            x.drift(0, 3);
            begin(x, 3, 16, 32, 33);
        }, x -> x.judge(3, 4));
        onlyAsks("beyond HOUR 9999, too", 3, x -> {
            x.ship(0, 63);
            till(x, 9999);
            x.drift(0, 3);
            begin(x, 0, 32, 0, 1, 2);
        }, x -> x.judge(0, 0));
    }

    private static Run courseOf24(int last) {
        int[] numbers = new int[24];
        for (int i = 0; i < 24; i++) {
            numbers[i] = i == 23 ? last : Math.min(i, 7);
        }
        return course(numbers);
    }

    public static void main(String[] args) {
        sheet();
        put();
        move();
        lands();
        judge();
        end();
    }
}
