/** Promises 24 and 25, each boundary case by itself: VOICES, THE TRACE. */
public final class EdgeVoiceTest extends Edges {
    private static final String[] VOICES = {"blows", "turns", "ties", "parts"};

    /** A KNOT of this KIND and m in place k, which is 3 times the SHIP and the KNOT. */
    private static KnottedWinds tied(KnottedWinds x, int km, int k) {
        fleet(x, 5);
        x.tie(k / 3, k % 3, km, 0);
        return x;
    }

    private static int spoken(KnottedWinds x, int k, int voice, int v) {
        return x.voice(k / 3, k % 3, voice, v);
    }

    /** What a VOICE of a KNOT answers, no ERROR being told, and THE TRACE. */
    private static void speaks(String of, int km, int k, int voice, int v, int want, int... bodies) {
        edge(of + ", " + VOICES[voice] + " of " + v, x -> {
            tied(x, km, k);
            due("voice", spoken(x, k, voice, v), want);
            for (int error = 1; error <= 6; error++) {
                due("told(" + error + ")", x.told(error), 0);
            }
            traced(x, bodies);
        });
    }

    private static void traced(KnottedWinds x, int... bodies) {
        due("BODIES", x.count(8), bodies.length);
        for (int i = 0; i < bodies.length; i++) {
            due("body(" + i + ")", x.body(i), bodies[i]);
        }
        due("body behind the last", x.body(bodies.length), NONE);
    }

    /** An answer of PARTED: told() tells one more, THE TRACE is its own, all else stays. */
    private static void parts(String of, int km, int k, int v, int... bodies) {
        edge(of, x -> {
            tied(x, km, k);
            x.voice(0, 0, 2, 1);
            due("voice", spoken(x, k, 3, v), PARTED);
            for (int error = 1; error <= 6; error++) {
                due("told(" + error + ")", x.told(error), error == 6 ? 1 : 0);
            }
            traced(x, bodies);
            due("its KIND and m", x.tie(k / 3, k % 3, 0, 0), km);
        });
        refused(of + ": nothing else is changed", PARTED, x -> {
            some(x);
            x.tie(2, 2, km / 10 * 10 + 8, 0);
            x.voice(2, 2, 3, 1);
        }, x -> x.voice(2, 2, 3, v));
    }

    private static void arguments() {
        beyondShips((x, v) -> x.voice(v, 0, 0, 1));
        beyond("KNOT", 0, 2, (x, v) -> x.voice(1, v, 0, 1));
        beyond("VOICE", 0, 3, (x, v) -> x.voice(1, 0, v, 1));
        refused("BEYOND is asked ahead of PARTED", BEYOND, x -> x.ship(5, 6), x -> x.voice(0, 3, 3, 1));
    }

    private static void places() {
        speaks("k 0, the least: SHIP 0, KNOT 0", 9, 0, 0, 5, 5, 10);
        speaks("k 2: SHIP 0, KNOT 2", 9, 2, 0, 5, 7, 10);
        speaks("k 3: SHIP 1, KNOT 0", 9, 3, 0, 5, 8, 10);
        speaks("k 14, the most: SHIP 4, KNOT 2", 9, 14, 0, 5, 19, 10);
        speaks("k 14, m 0: by -14", 0, 14, 3, 28, -2, 13);
        speaks("k 0, m 9: by 9", 9, 0, 3, 28, 3, 13);
    }

    private static void wraps() {
        speaks("the most int and k is below 0", 9, 1, 0, MOST, LEAST, 10);
        speaks("the least int and k", 9, 1, 0, LEAST, LEAST + 1, 10);
        speaks("twice the most int is -2", 9, 0, 1, MOST, -2, 11, 10);
        speaks("twice the least int is 0", 9, 0, 1, LEAST, 0, 11, 10);
        speaks("twice 2 to the 30th is the least int", 9, 0, 1, 1 << 30, LEAST, 11, 10);
        speaks("the least int less m is above 0", 9, 0, 2, 1 << 30, MOST - 8, 12, 11, 10);
        speaks("the least int by -1 is the least", 3, 4, 3, LEAST, LEAST, 13);
        speaks("the most int by -1", 3, 4, 3, MOST, -MOST, 13);
        speaks("LEFT: the least int less 9 is above 0", 10, 0, 0, LEAST, MOST - 8, 20, 10);
        speaks("LEFT: the most int and turns(1) is below 0", 19, 10, 3, -MOST, LEAST + 3, 21, 13, 11, 20, 10);
        speaks("LEFT: turns(1) below 0", 12, 1, 3, MOST, MOST - 14, 21, 13, 11, 20, 10);
        speaks("SLOW: 0 less the least int is the least", 20, 0, 1, 1 << 30, LEAST, 30, 11, 10);
        speaks("JOINED: three times wraps", 40, 0, 0, 1 << 30, (1 << 30) * 3 - 27, 50, 20, 10);
        speaks("LONG: the most int and 1 is the least", 50, 0, 1, MOST, 0, 60, 30, 11, 10);
        speaks("TOLD: 6, whatever x is", 69, 14, 0, LEAST, 6, 70);
        for (int error = 0; error <= 7; error++) {
            speaks("an answer of LOW - " + error + " is no ERROR", 9, 3, 0, LOW - error - 3, LOW - error, 10);
        }
    }

    private static void cuts() {
        speaks("cut toward 0", 9, 7, 3, 7, 3, 13);
        speaks("below 0 cut toward 0", 9, 7, 3, -7, -3, 13);
        speaks("by one below 0 cut toward 0", 5, 7, 3, 7, -3, 13);
        speaks("both below 0", 5, 7, 3, -7, 3, 13);
        speaks("0 by what isn't 0 is 0, not PARTED", 9, 7, 3, 0, 0, 13);
        speaks("1 by 2 is 0, not PARTED", 9, 7, 3, 1, 0, 13);
        speaks("by 1: m is one more than k", 8, 7, 3, 5, 5, 13);
        speaks("by -1: m is one less than k", 6, 7, 3, 5, -5, 13);
        speaks("EMPTY: half of x, cut toward 0", 30, 0, 2, 7, 6, 40, 12, 11, 10);
        speaks("EMPTY: half of x below 0, cut toward 0", 30, 0, 2, -7, -6, 40, 12, 11, 10);
        speaks("EMPTY: half of 1 is 0", 30, 0, 2, 1, 0, 40, 12, 11, 10);
        speaks("EMPTY: half of -1 is 0", 30, 0, 2, -1, 0, 40, 12, 11, 10);
    }

    /** k is 4, m 6, x 10: each VOICE of each KIND, its own or that of the KIND above. */
    private static void kinds() {
        speaks("KNOT", 6, 4, 0, 10, 14, 10);
        speaks("KNOT", 6, 4, 1, 10, 28, 11, 10);
        speaks("KNOT", 6, 4, 2, 10, 22, 12, 11, 10);
        speaks("KNOT", 6, 4, 3, 10, 5, 13);
        speaks("LEFT", 16, 4, 0, 10, 5, 20, 10);
        speaks("LEFT", 16, 4, 1, 10, 10, 11, 20, 10);
        speaks("LEFT", 16, 4, 2, 10, 4, 12, 11, 20, 10);
        speaks("LEFT", 16, 4, 3, 10, 5 - 8, 21, 13, 11, 20, 10);
        speaks("SLOW", 26, 4, 0, 10, 14, 10);
        speaks("SLOW", 26, 4, 1, 10, -28, 30, 11, 10);
        speaks("SLOW", 26, 4, 2, 10, -34, 12, 30, 11, 10);
        speaks("SLOW", 26, 4, 3, 10, 5, 13);
        speaks("EMPTY", 36, 4, 0, 10, 14, 10);
        speaks("EMPTY", 36, 4, 1, 10, 28, 11, 10);
        speaks("EMPTY", 36, 4, 2, 10, 12, 40, 12, 11, 10);
        speaks("EMPTY", 36, 4, 3, 10, 5, 13);
        speaks("JOINED", 46, 4, 0, 10, 15, 50, 20, 10);
        speaks("JOINED", 46, 4, 1, 10, 30, 11, 50, 20, 10);
        speaks("JOINED", 46, 4, 2, 10, 24 ^ 4, 51, 12, 11, 50, 20, 10);
        speaks("JOINED: ^ of a bit that both have", 46, 4, 2, 11, 26, 51, 12, 11, 50, 20, 10);
        speaks("JOINED: ^ of one below 0", 46, 4, 2, 0, -36 ^ 4, 51, 12, 11, 50, 20, 10);
        speaks("JOINED", 46, 4, 3, 10, 5 - 24, 21, 13, 11, 50, 20, 10);
        speaks("LONG", 56, 4, 0, 10, 14, 10);
        speaks("LONG", 56, 4, 1, 10, -30, 60, 30, 11, 10);
        speaks("LONG", 56, 4, 2, 10, -36, 12, 60, 30, 11, 10);
        speaks("LONG", 56, 4, 3, 10, 5, 13);
        speaks("TOLD", 66, 4, 0, 10, 6, 70);
        speaks("TOLD", 66, 4, 1, 10, 18, 71, 11, 70);
        speaks("TOLD", 66, 4, 2, 10, 12, 12, 71, 11, 70);
        speaks("TOLD", 66, 4, 3, 10, 5, 13);
    }

    private static void partings() {
        parts("PARTED: KNOT, m is k", 7, 7, 5, 13);
        parts("PARTED: LEFT, nothing begins behind it", 17, 7, 5, 21, 13);
        parts("PARTED: SLOW", 27, 7, 5, 13);
        parts("PARTED: EMPTY", 37, 7, 5, 13);
        parts("PARTED: JOINED", 47, 7, 5, 21, 13);
        parts("PARTED: LONG", 57, 7, 5, 13);
        parts("PARTED: TOLD", 67, 7, 5, 13);
        parts("PARTED: k 0, m 0", 0, 0, 5, 13);
        parts("PARTED: k 9, m 9, the most", 9, 9, 5, 13);
        parts("PARTED: 0 by 0", 7, 7, 0, 13);
        parts("PARTED: the least int by 0", 7, 7, LEAST, 13);
        for (int voice = 0; voice < 3; voice++) {
            int v = voice;
            edge("m is k: " + VOICES[v] + " doesn't part", x -> {
                tied(x, 17, 7);
                due("told(6)", spoken(x, 7, v, 5) > LOW ? x.told(6) : -1, 0);
            });
        }
    }

    private static void body() {
        promise(25);
        Run three = x -> x.voice(0, 0, 2, 5);
        edge("none yet, i 0", x -> {
            due(x.body(0), NONE);
            due(x.told(2), 1);
        });
        refused("none yet", NONE, Edges::nothing, x -> x.body(0));
        onlyAsks("i 0, the first", 12, both(Edges::some, three), x -> x.body(0));
        onlyAsks("i 1, the middle", 71, both(Edges::some, three), x -> x.body(1));
        onlyAsks("i 3, the last of four", 70, both(Edges::some, three), x -> x.body(3));
        refused("i 4 of four", NONE, both(Edges::some, three), x -> x.body(4));
        refused("i -1", NONE, both(Edges::some, three), x -> x.body(-1));
        refused("i 29", NONE, both(Edges::some, three), x -> x.body(29));
        refused("i 30", NONE, both(Edges::some, three), x -> x.body(30));
        refused("the least i there is", NONE, both(Edges::some, three), x -> x.body(LEAST));
        refused("the most i there is", NONE, both(Edges::some, three), x -> x.body(MOST));
        edge("a trace of one: i 0 is the first and the last", x -> {
            tied(x, 66, 4);
            spoken(x, 4, 0, 5);
            due(x.body(0), 70);
            due(x.body(1), NONE);
        });
        edge("the longest: six", x -> {
            tied(x, 46, 4);
            spoken(x, 4, 2, 5);
            traced(x, 51, 12, 11, 50, 20, 10);
        });
        edge("the latest: a shorter one behind a longer one has nothing of it", x -> {
            tied(x, 46, 4);
            spoken(x, 4, 2, 5);
            spoken(x, 4, 0, 5);
            traced(x, 50, 20, 10);
            x.voice(0, 0, 0, 5);
            traced(x, 10);
        });
        edge("a voice() that is BEYOND leaves it", x -> {
            tied(x, 46, 4);
            spoken(x, 4, 0, 5);
            due(x.voice(5, 0, 0, 5), BEYOND);
            due(x.voice(0, 3, 0, 5), BEYOND);
            due(x.voice(0, 0, 4, 5), BEYOND);
            traced(x, 50, 20, 10);
        });
        edge("a voice() that is PARTED has one of its own", x -> {
            tied(x, 44, 4);
            spoken(x, 4, 2, 5);
            due(spoken(x, 4, 3, 5), PARTED);
            traced(x, 21, 13);
        });
        edge("behind one that is PARTED the next is as ever", x -> {
            tied(x, 44, 4);
            due(spoken(x, 4, 3, 5), PARTED);
            spoken(x, 4, 0, 5);
            traced(x, 50, 20, 10);
        });
        edge("other calls leave it", x -> {
            some(x);
            x.tie(0, 1, 0, 0);
            x.hours(1);
            x.image();
            x.restore();
            traced(x, 12, 60, 30, 11, 10);
        });
    }

    public static void main(String[] args) {
        promise(24);
        arguments();
        places();
        wraps();
        cuts();
        kinds();
        partings();
        body();
        end();
    }
}
