/** Promises 12 to 14, each boundary case by itself: THE TAPE, TEXTS. */
public final class EdgeTextTest extends Edges {
    private static void feed() {
        promise(12);
        edge("n 1, the least: the lowest byte alone", x -> {
            due(x.feed(0x3938L, 1), 1);
            due(x.text(1), 1);
            due(price(x), 8);
        });
        edge("n 8, the most", x -> {
            due(x.feed(0x3138393738393738L, 8), 8);
            due(x.count(6), 8);
        });
        edge("n 8: the eighth byte is the last", x -> {
            // 999+1+1%
            due(x.feed(0x25312B312B393939L, 8), 8);
            due(x.text(1), -18);
        });
        edge("n 8 of a word below 0: its bytes are 255", x -> {
            due(x.feed(-1L, 8), 8);
            due(x.text(1), -10);
        });
        edge("n 4 of a long: no byte of its upper half", x -> {
            due(x.feed(0x2121212139393939L, 4), 4);
            due(x.text(1), 1);
            due(price(x), 999);
        });
        edge("the lowest first", x -> {
            due(x.feed(0x333231L, 3), 3);
            due(x.text(1), 1);
            due(price(x), 123);
        });
        edge("behind what is there", x -> {
            due(x.feed(0x31L, 1), 1);
            due(x.feed(0x3332L, 2), 3);
            due(x.text(1), 1);
            due(price(x), 123);
        });
        beyond("n", 1, 8, (x, v) -> x.feed(0x31L, v));
        edge("60 bytes, all places taken, one by one", x -> {
            for (int i = 1; i <= 60; i++) {
                due(x.feed(0x31L, 1), i);
            }
            due(x.count(6), 60);
        });
        edge("60 bytes, the last eight at once", x -> {
            fed(x, 52);
            due(x.feed(0x31L, 8), 60);
        });
        refused("the 61st byte", FULL, x -> fed(x, 60), x -> x.feed(0x31L, 1));
        refused("eight bytes behind 53: none of them comes", FULL, x -> fed(x, 53), x -> x.feed(0x31L, 8));
        refused("eight bytes behind 60", FULL, x -> fed(x, 60), x -> x.feed(0x31L, 8));
        refused("BEYOND is asked ahead of FULL", BEYOND, x -> fed(x, 60), x -> x.feed(0x31L, 9));
        edge("behind FULL fewer may come", x -> {
            fed(x, 53);
            due(x.feed(0x31L, 8), FULL);
            due(x.feed(0x31L, 7), 60);
        });
        edge("behind text() all 60 may come anew", x -> {
            fed(x, 60);
            x.text(0);
            fed(x, 52);
            due(x.feed(0x31L, 8), 60);
        });
    }

    /** As many bytes: 1+1+1+... */
    private static void fed(KnottedWinds x, int bytes) {
        feed(x, "1+".repeat(30).substring(0, bytes));
    }

    /** PRICE of KNOT 1 of SHIP 0: its KIND is 4, its m 5; all three are TIED. */
    private static int price(KnottedWinds x) {
        x.ship(5, 6);
        x.tie(0, 1, 45, WEST);
        return x.knotIs(0, 1, 5);
    }

    /** A TEXT of PRICE that gives this, in 0 .. 999. */
    private static void gives(String of, String text, int want) {
        edge(of + " (" + text + ")", x -> {
            due("text(1)", text(x, 1, text), 1);
            due("the PRICE", price(x), want);
        });
    }

    /** A FAULT at this place: the TEXT ahead stays, THE TAPE is empty, and it is no ERROR. */
    private static void fault(String of, int use, String text, int place) {
        edge(of + " (" + text + ")", x -> {
            feed(x, text);
            due("text(" + use + ")", x.text(use), -10 - place);
            due("bytes of THE TAPE", x.count(6), 0);
            due("untell(" + use + ")", x.untell(use), 0);
            for (int k = 1; k <= 6; k++) {
                due("told(" + k + ")", x.told(k), 0);
            }
        });
    }

    private static void text() {
        promise(13);
        edge("USE 0, the first", x -> {
            due(text(x, 0, "5"), 1);
            due(x.untell(0), 1);
            due(x.untell(1), 0);
        });
        edge("USE 1, the last", x -> {
            due(text(x, 1, "5"), 1);
            due(x.untell(0), 0);
            due(x.untell(1), 1);
        });
        beyond("USE", 0, 1, (x, v) -> x.text(v));
        refused("BEYOND is asked ahead of the FAULT", BEYOND, x -> feed(x, "+"), x -> x.text(2));
        edge("THE TAPE is empty behind a TEXT", x -> {
            text(x, 1, "5+5");
            due(x.count(6), 0);
            due(x.feed(0x31L, 1), 1);
        });
        edge("in place of the one ahead", x -> {
            text(x, 1, "5+5");
            due(text(x, 1, "7"), 1);
            due(price(x), 7);
        });
        edge("behind a FAULT the one ahead stays", x -> {
            text(x, 1, "5+5");
            due(text(x, 1, "7+"), -12);
            due(price(x), 10);
        });
        edge("behind an empty TAPE the one ahead stays", x -> {
            text(x, 1, "5+5");
            due(x.text(1), -10);
            due(price(x), 10);
        });
        edge("behind a FAULT the next TEXT is read as ever", x -> {
            due(text(x, 1, "7+"), -12);
            due(text(x, 1, "((6"), -13);
            due(text(x, 1, "1<2<3"), -13);
            due(text(x, 1, "!!!!!(0)"), -15);
            due(text(x, 1, "(5+5)*!0"), 1);
            due(price(x), 10);
        });
        edge("behind a TEXT a FAULT is told as ever", x -> {
            due(text(x, 1, "(((((1)))))"), 1);
            due(text(x, 1, "((((((1))))))"), -15);
            due(text(x, 1, "h"), -10);
        });
        edge("a FAULT of a longer one leaves nothing of it", x -> {
            text(x, 1, "8");
            due(text(x, 1, "1+2+3+4+5+"), -20);
            due(price(x), 8);
        });
        edge("a TEXT of the other USE is another one", x -> {
            text(x, 1, "8");
            text(x, 0, "9");
            due(price(x), 8);
        });
        numbers();
        names();
        faultsOfOperators();
        opens();
        lengths();
        workedOut();
    }

    private static void numbers() {
        gives("a NUMBER of 1 digit, the fewest", "0", 0);
        gives("a NUMBER of 1 digit, the most of it", "9", 9);
        gives("a NUMBER of 4 digits, the most", "9999-9000", 999);
        gives("a NUMBER of 4 digits, all 0", "0000", 0);
        gives("a NUMBER of 4 digits, 0 in front", "0078", 78);
        fault("a fifth digit", 1, "12345", 4);
        fault("a fifth digit, all 0", 1, "00000", 4);
        fault("a fifth digit, later", 1, "1+12345", 6);
        fault("the byte below 0", 1, "/", 0);
        fault("the byte above 9", 1, ":", 0);
        fault("the byte below 0, in a NUMBER", 1, "1.", 1);
        fault("the byte above 9, in a NUMBER", 1, "1:", 1);
        fault("a byte of 0", 1, "1" + (char) 0, 1);
        fault("a byte of 255", 1, "1" + (char) 255, 1);
        fault("a byte of 128 and a digit", 1, "1" + (char) (128 + '1'), 1);
        fault("a byte of 255, the first", 0, "" + (char) 255, 0);
        fault("a sign ahead of a NUMBER", 1, "-1", 0);
    }

    private static void names() {
        for (String[] use : new String[][] {{"0", "hwm", "kn"}, {"1", "kmn", "hw"}}) {
            int u = Integer.parseInt(use[0]);
            for (char name : use[1].toCharArray()) {
                edge("NAME " + name + " of USE " + u, x -> due(text(x, u, "" + name), 1));
            }
            for (char name : use[2].toCharArray()) {
                fault("no NAME of USE " + u, u, "" + name, 0);
                fault("no NAME of USE " + u + ", later", u, "1+m*" + name, 4);
            }
            for (char name : "abgilovxzHWMKN_".toCharArray()) {
                fault("no NAME of USE " + u, u, "" + name, 0);
            }
        }
        fault("a NAME of two letters", 1, "kk", 1);
        fault("a NAME behind a NUMBER", 1, "1k", 1);
        fault("a NUMBER behind a NAME", 1, "k1", 1);
        fault("a blank, the first", 1, " 1", 0);
        fault("a blank, the last", 1, "1 ", 1);
        fault("a blank in the middle", 1, "1 +1", 1);
        fault("a blank behind an operator", 1, "1+ 1", 2);
        fault("a line's end", 1, "1\n", 1);
    }

    private static void faultsOfOperators() {
        fault("it is empty: FAULT 0", 0, "", 0);
        fault("it is empty, of USE 1", 1, "", 0);
        for (char operator : "|&<=>+-*/%".toCharArray()) {
            fault("it ends behind an operator", 1, "1" + operator, 2);
            fault("an operator, the first", 1, operator + "1", 0);
            fault("two operators", 1, "1" + operator + operator + "1", 2);
            fault("an operator, then )", 1, "(1" + operator + ")", 3);
        }
        for (char first : "<=>".toCharArray()) {
            for (char second : "<=>".toCharArray()) {
                fault("S is compared once only", 1, "1" + first + "2" + second + "3", 3);
            }
        }
        fault("S is compared once only, in ( )", 1, "(1<2<3)", 4);
        fault("S is compared once only, behind + too", 1, "1<2+3<4", 5);
        gives("S is compared anew behind &", "1<2&2<3", 1);
        gives("S is compared anew behind |", "2<1|2<3", 1);
        gives("S is compared anew in ( )", "(2<1)<(2<3)", 1);
        fault("! with nothing behind it", 1, "!", 1);
        fault("! with an operator behind it", 1, "!+1", 1);
        fault("! behind a NUMBER", 1, "1!", 1);
        fault("( behind a NUMBER", 1, "1(2)", 1);
        fault("( with nothing in it", 1, "()", 1);
        fault("( that isn't closed", 1, "(1", 2);
        fault("( that isn't closed behind others that are", 1, "((1)+2", 6);
        fault(") that wasn't opened", 1, "1)", 1);
        fault(") that wasn't opened, the first", 1, ")", 0);
        fault(") too many", 1, "(1))", 3);
        fault(") and then a NUMBER", 1, "(1)2", 3);
        fault("a byte that is in no TEXT", 1, "1^2", 1);
    }

    private static void opens() {
        gives("5 of ! are open at once", "!!!!!0", 1);
        fault("a sixth !", 1, "!!!!!!0", 5);
        gives("5 of ( are open at once", "(((((7)))))", 7);
        fault("a sixth (", 1, "((((((7))))))", 5);
        gives("5 of both are open at once", "!(!(!0))", 1);
        fault("a sixth ( of both", 1, "!(!(!(0)))", 5);
        fault("a sixth ! of both", 1, "(!(!(!0)))", 5);
        fault("a sixth, though it ends too early", 1, "((((((", 5);
        fault("5 open, and then the end", 1, "(((((", 5);
        fault("5 of ! open, and then the end", 1, "!!!!!", 5);
        gives("( that are closed count no more", "(1)+(1)+(1)+(1)+(1)+(1)+(1)", 7);
        gives("! whose Q is there count no more", "!0+!0+!0+!0+!0+!0+!0", 7);
        gives("! of a ( ) that is closed counts no more", "!(0)+((((7))))", 8);
        gives("5 open behind 5 that are closed", "(((((1)))))+(((((2)))))", 3);
        fault("a sixth behind 5 that are closed", 1, "(((((1)))))+((((((2))))))", 17);
        fault("a sixth behind one that is closed within", 1, "((((((1)", 5);
        gives("a fifth, again and again, within four", "((((!0+!0+(5)))))", 7);
        fault("a sixth of !, within a ( that a ! opened", 1, "(((!(!1))))", 5);
    }

    private static void lengths() {
        edge("60 bytes are a TEXT", x -> {
            String sixty = "1+".repeat(29) + "70";
            due("bytes", sixty.length(), 60);
            due(text(x, 1, sixty), 1);
            due(price(x), 99);
        });
        edge("60 bytes, a NAME each with an operator", x -> {
            String sixty = "m+".repeat(29) + "!0";
            due(text(x, 1, sixty), 1);
            due(price(x), 146);
        });
        edge("60 bytes that end too early: FAULT 60", x -> {
            due(text(x, 1, "1+".repeat(30)), -70);
            due(x.untell(1), 0);
        });
        edge("60 bytes, the last of which is the FAULT", x -> due(text(x, 1, "1+".repeat(29) + "1)"), -69));
        edge("60 bytes, a sixth ( the last: FAULT 59", x -> due(text(x, 1, "1+".repeat(27) + "(((((("), -69));
        edge("60 bytes, each a digit: FAULT 4", x -> due(text(x, 1, "1".repeat(60)), -14));
        edge("59 bytes are a TEXT", x -> {
            due(text(x, 1, "1+".repeat(29) + "1"), 1);
            due(price(x), 30);
        });
        edge("1 byte is a TEXT, the shortest", x -> {
            due(text(x, 1, "k"), 1);
            due(price(x), 4);
        });
        edge("a shorter one behind a longer one has nothing of it", x -> {
            text(x, 1, "1+".repeat(29) + "70");
            due(text(x, 1, "3"), 1);
            due(price(x), 3);
        });
    }

    private static void workedOut() {
        gives("/ is cut toward 0", "7/2", 3);
        gives("/ below 0 is cut toward 0", "(0-7)/2+10", 7);
        gives("/ by one below 0 is cut toward 0", "7/(0-2)+10", 7);
        gives("/ of two below 0", "(0-7)/(0-2)", 3);
        gives("% is the rest that / leaves", "7%2", 1);
        gives("% below 0", "(0-7)%2+10", 9);
        gives("% by one below 0", "7%(0-2)+10", 11);
        gives("/ by 0 is 0", "7/0+5", 5);
        gives("% by 0 is 0", "7%0+5", 5);
        gives("0 / 0 is 0", "0/0+5", 5);
        gives("0 % 0 is 0", "0%0+5", 5);
        gives("/ by 0 that is worked out", "7/(3-3)+5", 5);
        gives("% by 0 that is worked out", "7%(3-3)+5", 5);
        gives("/ by 0 behind | that is true: all is worked out", "1|7/0", 1);
        gives("/ by 0 behind & that isn't true: all is worked out", "0&7/0", 0);
        gives("the most int and 1 is the least", "256*256*256*128-1+1<0", 1);
        gives("the least int less 1 is the most", "256*256*256*128-1>0", 1);
        gives("* wraps to below 0", "256*256*256*128<0", 1);
        gives("* wraps to 0", "256*256*256*256+5", 5);
        gives("* wraps, and goes on above 0", "256*256*256*257/256/256/256", 1);
        gives("0 less the least int is the least", "0-256*256*256*128<0", 1);
        gives("the least int / -1 is the least", "256*256*256*128/(0-1)<0", 1);
        gives("the least int % -1 is 0", "256*256*256*128%(0-1)+5", 5);
        gives("- wraps", "0-256*256*256*127-256*256*256-1>0", 1);
        gives("< of like ones", "(2<2)+5", 5);
        gives("< of the next", "(2<3)+5", 6);
        gives("> of like ones", "(2>2)+5", 5);
        gives("> of the next", "(3>2)+5", 6);
        gives("= of like ones", "(2=2)+5", 6);
        gives("= of the next", "(2=3)+5", 5);
        gives("< of the least and the most int, no difference that wraps", "256*256*256*128<256*256*256*128-1", 1);
        gives("> of the least and the most int, no difference that wraps", "(256*256*256*128>256*256*256*128-1)+5", 5);
        gives("| is 1, not what is true", "7|9", 1);
        gives("| of the left one", "7|0", 1);
        gives("| of the right one", "0|7", 1);
        gives("| of none", "(0|0)+5", 5);
        gives("& is 1, not what is true", "7&9", 1);
        gives("& of 1 and 2, which have no bit in common", "1&2", 1);
        gives("& of the left one", "(7&0)+5", 5);
        gives("& of the right one", "(0&7)+5", 5);
        gives("what is below 0 is true", "(0-1)&1", 1);
        gives("what is below 0 is true of |", "(0-1)|0", 1);
        gives("! of 0", "!0", 1);
        gives("! of 1", "!1+5", 5);
        gives("! of 2", "!2+5", 5);
        gives("! of one below 0", "!(0-1)+5", 5);
        gives("!! of 7 is 1", "!!7", 1);
        gives("- from the left on", "9-3-2", 4);
        gives("/ from the left on", "100/7/2", 7);
        gives("% and * from the left on", "7%4*3", 9);
        gives("* and / from the left on", "7*3/4", 5);
        gives("* ahead of +", "1+2*3", 7);
        gives("+ ahead of <", "1+1<3", 1);
        gives("< ahead of &", "1<2&2", 1);
        gives("& ahead of |", "1|0&0", 1);
        gives("! ahead of *", "!0*7", 7);
    }

    private static void untell() {
        promise(14);
        edge("USE 0, the first", x -> {
            text(x, 0, "5");
            text(x, 1, "6");
            due(x.untell(0), 1);
            due(x.untell(1), 1);
        });
        edge("USE 1, the last", x -> {
            text(x, 0, "5");
            text(x, 1, "6");
            due(x.untell(1), 1);
            due(x.untell(0), 1);
        });
        beyond("USE", 0, 1, (x, v) -> x.untell(v));
        edge("there was none", x -> {
            due(x.untell(0), 0);
            due(x.untell(1), 0);
        });
        edge("there is none any more", x -> {
            text(x, 1, "6");
            due(x.untell(1), 1);
            due(x.untell(1), 0);
        });
        edge("a FAULT has told none", x -> {
            text(x, 1, "6+");
            due(x.untell(1), 0);
        });
        edge("PRICE is m*n then", x -> {
            text(x, 1, "6");
            x.untell(1);
            due(price(x), 15);
        });
        edge("TOLD blows as KNOT then, from when it was loosed", x -> {
            lone(x);
            text(x, 0, "h+11");
            x.tie(0, 0, 65, EAST);
            due(x.loose(0, 0), 11);
            x.hours(2);
            x.untell(0);
            due(x.knotIs(0, 0, 4), 5);
            x.hours(1);
            due(x.knotIs(0, 0, 4), 0);
        });
        edge("THE TAPE stays", x -> {
            text(x, 1, "6");
            feed(x, "7");
            x.untell(1);
            due(x.count(6), 1);
            due(x.text(1), 1);
            due(price(x), 7);
        });
    }

    public static void main(String[] args) {
        feed();
        text();
        untell();
        end();
    }
}
