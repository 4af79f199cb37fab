/** Promises 30 to 37 at their edges: JUDGED, THE IMAGE, counts, TAPES. */
public final class EdgeTapesTest {
    private static final int LOW = Edge.LOW, HIGH = Edge.HIGH, NONE = Edge.NONE, BAD = Edge.BAD, STATE = Edge.STATE;
    private static final int NOTHING = Edge.NOTHING, CAST = Edge.CAST, PLACE = Edge.PLACE, SIZE = Edge.SIZE;
    private static final int NOT_THERE = Edge.NOT_THERE;
    private static final long NO = Edge.NO;
    private static final int BYTES = 0, SHORTS = 1, INTS = 2, LONGS = 3, BOOLEANS = 4;
    private static final int[] NO_TAPE = {-1, 6, LOW, HIGH};
    private static final Edge edge = new Edge();

    private EdgeTapesTest() {
    }

    public static void main(String[] args) {
        judged();
        judgedWhereTheRowEnds();
        judgedRefused();
        judgedWithoutMoves();
        imagesTaken();
        imagesOfAll();
        undoRefused();
        counts();
        pairs();
        tapesTaken();
        tapesRefused();
        itemsCut();
        itemsRefused();
        shiftsTaken();
        shiftsOverlapping();
        shiftsRefused();
        edge.end();
    }

    private static void is(String call, long got, long want) {
        edge.is(call, got, want);
    }

    /** Eight MOVES, ROWS of ground 2: -1 .. -8, told by TAPE 1 from place 3 on up to its end. */
    private static LegHedge eightMoves() {
        LegHedge x = new LegHedge();
        x.tape(1, INTS, 11);
        x.trade(2, 0, 0, 0, 1);
        for (int move = 0; move < 8; move++) {
            x.move(move + 1, 0, 100);
            x.item(1, 3 + move, -move - 1);
        }
        return x;
    }

    private static void judged() {
        edge.part("promise 30: the number of the first that is otherwise; -5: none");
        edge.same("all are so", EdgeTapesTest::eightMoves, NOT_THERE, x -> x.judge(2, 1, 3));
        for (int move = 0; move < 8; move++) {
            LegHedge x = eightMoves();
            int place = 3 + move;
            x.item(1, place, 77);
            is("otherwise at " + move, x.judge(2, 1, 3), move);
            x.item(1, 10, 78);
            is("the first of them", x.judge(2, 1, 3), move);
            x.item(1, place, -move - 1);
            is("the last of them", x.judge(2, 1, 3), move == 7 ? NOT_THERE : 7);
        }
        LegHedge y = eightMoves();
        is("another place", y.judge(2, 1, 2), 0);
        is("another GROUND", y.judge(1, 1, 3), 0);
        is("another GROUND by 0", y.judge(1, 1, 0), 3);
        y.still(7);
        is("items behind the MOVES don't matter", y.judge(2, 1, 3), NOT_THERE);
        y.tape(5, INTS, 60);
        is("a row of 0", y.judge(4, 5, 0), NOT_THERE);
        is("its end", y.judge(4, 5, 53), NOT_THERE);
    }

    private static void judgedWhereTheRowEnds() {
        edge.part("promise 30: 100 and how many were looked at");
        for (int n = 0; n <= 8; n++) {
            LegHedge x = eightMoves();
            x.tape(4, INTS, 7 + n);
            x.shift(1, 3, 4, 7, n);
            is("behind " + n, x.judge(2, 4, 7), n == 8 ? NOT_THERE : 100 + n);
            is("from one place behind its end", x.judge(2, 4, 7 + n), 100);
            is("from two places behind its end", x.judge(2, 4, 8 + n), 100);
            x.item(4, 6 + n, 55);
            is("otherwise ahead of the end", x.judge(2, 4, 7), n == 0 ? 100 : n - 1);
        }
        int[] beyond = {-1, -2, -8, LOW, LOW + 1, 11, 12, 60, HIGH, HIGH - 1, HIGH - 7};
        for (int i : beyond) {
            edge.same("place " + i, EdgeTapesTest::eightMoves, 100, x -> x.judge(2, 1, i));
        }
        edge.same("the last place", EdgeTapesTest::eightMoves, 0, x -> x.judge(2, 1, 10));
        int[] any = {0, 1, -1, LOW, HIGH};
        for (int i : any) {
            edge.same("holds nothing, place " + i, EdgeTapesTest::eightMoves, 100, x -> x.judge(2, 0, i));
        }
        LegHedge y = eightMoves();
        y.tape(1, -1, 0);
        is("holds nothing any more", y.judge(2, 1, 3), 100);
        y.tape(1, INTS, 0);
        is("a row of none", y.judge(2, 1, 0), 100);
        y.tape(1, INTS, 1);
        y.item(1, 0, -1);
        is("a row of one", y.judge(2, 1, 0), 101);
    }

    private static void judgedRefused() {
        edge.part("promise 30: NONE, CAST");
        int[] noGround = {-1, 5, LOW, HIGH};
        for (int g : noGround) {
            edge.refused("judge(" + g + ", 0, 0)", NONE, x -> x.judge(g, 0, 0));
            edge.refused("judge(" + g + ", 1, 0), NONE ahead of CAST", NONE, x -> x.judge(g, 1, 0));
        }
        for (int tape : NO_TAPE) {
            edge.refused("judge(0, " + tape + ", 0)", NONE, x -> x.judge(0, tape, 0));
        }
        int[] any = {0, -1, 60, LOW, HIGH};
        for (int i : any) {
            edge.refused("judge(0, 1, " + i + ") of longs", CAST, x -> x.judge(0, 1, i));
        }
        for (int sort = 0; sort < 5; sort++) {
            LegHedge x = eightMoves();
            x.tape(3, sort, 8);
            is("sort " + sort, x.judge(4, 3, 0), sort == INTS ? NOT_THERE : CAST);
            x.tape(3, sort, 0);
            is("sort " + sort + ", a row of none", x.judge(4, 3, 0), sort == INTS ? 100 : CAST);
        }
    }

    private static void judgedWithoutMoves() {
        edge.part("promise 30: -5 if there are none, whatever the place and the TAPE are, but CAST");
        LegHedge x = new LegHedge();
        x.tape(1, INTS, 1);
        x.item(1, 0, 5);
        x.tape(2, INTS, 0);
        int[] any = {0, 1, -1, LOW, HIGH};
        for (int i : any) {
            is("a TAPE that holds nothing", x.judge(0, 0, i), NOT_THERE);
            is("a row of one", x.judge(0, 1, i), NOT_THERE);
            is("a row of none", x.judge(0, 2, i), NOT_THERE);
            is("no such TAPE", x.judge(0, 6, i), NONE);
            is("no such GROUND", x.judge(5, 0, i), NONE);
            for (int sort = 0; sort < 5; sort++) {
                x.tape(3, sort, 1);
                is("sort " + sort, x.judge(0, 3, i), sort == INTS ? NOT_THERE : CAST);
            }
        }
    }

    private static void imagesTaken() {
        edge.part("promises 31, 32: how many LEGS; THE IMAGE stays");
        LegHedge x = new LegHedge();
        is("no LEGS", x.image(), 0);
        for (int i = 0; i < 24; i++) {
            x.trade(0, 1, 0, i, 1);
            is("image()", x.image(), i + 1);
        }
        x.trade(0, 1, 0, 0, -1);
        for (int i = 0; i < 3; i++) {
            is("undo()", x.undo(), 24);
            is("told(6)", x.told(6), 24);
            is("LEG 0", x.legOf(0, 3), 0);
            is("LEG 23", x.legOf(23, 3), 23);
            x.trade(0, 1, 0, 20 - i, -1);
            is("told(6)", x.told(6), 23);
        }
        is("image() again", x.image(), 23);
        is("undo()", x.undo(), 23);
        is("undo()", x.undo(), 23);
        LegHedge y = Look.rich();
        is("six LEGS, one in THE IMAGE", y.told(6), 6);
        is("undo()", y.undo(), 1);
        is("image()", y.image(), 1);
        is("undo()", y.undo(), 1);
    }

    private static void imagesOfAll() {
        edge.part("promises 31, 32: all but THE TEXT, TAPES");
        LegHedge x = Look.rich();
        x.image();
        for (int g = 0; g < 5; g++) {
            int[] other = {50, 7, 3, 20, 9, 8};
            for (int what = 0; what < 6; what++) {
                x.ground(g, what, other[what]);
            }
        }
        x.move(3, 3, 3);
        x.still(0);
        x.unset(0);
        x.offset(3, 2, 1, 1, 1, 1);
        x.trade(0, 0, 0, 0, -10);
        x.trade(4, 1, 1, 1, 1);
        x.see(5, 5);
        x.plan(1, 1);
        is("undo()", x.undo(), 6);
        LegHedge y = Look.rich();
        y.image();
        is("all is as it was", Look.at(x).equals(Look.at(y)) ? 1 : 0, 1);
        LegHedge z = new LegHedge();
        Look.feed(z, "p0");
        z.tape(0, INTS, 2);
        z.item(0, 1, 5);
        is("image()", z.image(), 0);
        Look.feed(z, ".7");
        z.item(0, 1, 6);
        z.tape(1, BYTES, 1);
        is("undo()", z.undo(), 0);
        is("THE TEXT stays", z.count(5), 4);
        is("items stay", z.peek(0, 1), 6);
        is("TAPES stay", z.peek(1, 0), 0);
        is("THE TEXT stays", z.read(), 1);
        is("PRICE", z.groundOf(0, 0), 7);
        is("undo()", z.undo(), 0);
        is("PRICE", z.groundOf(0, 0), 100);
        is("THE TEXT is empty still", z.count(5), 0);
        LegHedge w = new LegHedge();
        w.see(100, 0);
        w.plan(0, 1);
        w.image();
        w.see(-1, 0);
        w.plan(-1, 0);
        w.undo();
        is("SEEN", w.count(3), 1);
        is("the PLAN", w.count(4), 1);
    }

    private static void undoRefused() {
        edge.part("promise 32: STATE");
        edge.same("undo()", () -> {
            LegHedge x = new LegHedge();
            x.trade(0, 0, 0, 0, 1);
            x.see(1, 0);
            x.plan(0, 1);
            return x;
        }, STATE, x -> x.undo());
        LegHedge x = new LegHedge();
        is("undo() of a new object", x.undo(), STATE);
        is("undo() again", x.undo(), STATE);
        is("image()", x.image(), 0);
        is("undo()", x.undo(), 0);
    }

    private static void counts() {
        edge.part("promise 33: how many; BAD");
        int[] noWhat = {-1, 7, LOW, HIGH};
        for (int what : noWhat) {
            edge.refused("count(" + what + ")", BAD, x -> x.count(what));
        }
        long[] want = {6, 2, 2, 1, 2, 4, 2};
        for (int w = 0; w < 7; w++) {
            int what = w;
            edge.refused("count(" + w + ")", want[w], x -> x.count(what));
        }
    }

    private static void pairs() {
        edge.part("promise 33: unlike STRIKES, EXPIRIES of LEGS that are no FUTURES, both together");
        LegHedge x = new LegHedge();
        x.trade(0, 0, 0, 0, 1);
        x.trade(1, 0, 1, 0, 1);
        is("FUTURES", x.count(6), 0);
        int[][] legs = {{0, 1, 0, 0}, {0, 2, 0, 0}, {4, 4, 0, 0}, {0, 1, 1, 0}, {0, 1, 0, 1}, {3, 3, 1, 0},
            {0, 1, 5, 999}, {2, 2, 5, 999}, {0, 3, 5, 998}, {0, 4, 0, 5}, {0, 1, 5, 0}};
        long[] want = {1, 1, 1, 2, 3, 3, 4, 4, 5, 6, 7};
        for (int i = 0; i < legs.length; i++) {
            x.trade(legs[i][0], legs[i][1], legs[i][2], legs[i][3], i % 2 == 0 ? 1 : -1);
            is("with LEG " + (i + 2), x.count(6), want[i]);
        }
        x.trade(0, 1, 0, 0, -1);
        is("another one of it is there", x.count(6), 7);
        x.trade(0, 2, 0, 0, 1);
        x.trade(4, 4, 0, 0, -1);
        is("none of it is there", x.count(6), 6);
        x.trade(0, 1, 5, 0, -1);
        is("the last LEG goes", x.count(6), 5);
        LegHedge y = new LegHedge();
        for (int i = 0; i < 24; i++) {
            y.trade(0, 1, i % 6, i / 6, 1);
            is("24 pairs", y.count(6), i + 1);
        }
        LegHedge z = new LegHedge();
        z.trade(0, 1, 3, 50, 1);
        z.trade(1, 1, 3, 50, 1);
        z.trade(0, 2, 3, 50, 1);
        is("three LEGS of one pair", z.count(6), 1);
    }

    private static void tapesTaken() {
        edge.part("promise 34: a row of n, all 0, or holds nothing");
        for (int tape = 0; tape < 6; tape++) {
            for (int sort = 0; sort < 5; sort++) {
                LegHedge x = new LegHedge();
                is("60 items", x.tape(tape, sort, 60), 1);
                for (int i = 0; i < 60; i++) {
                    x.item(tape, i, 1);
                }
                is("the last", x.peek(tape, 59), 1);
                is("none behind it", x.peek(tape, 60), NO);
                is("0 items", x.tape(tape, sort, 0), 1);
                is("none", x.peek(tape, 0), NO);
                is("none", x.item(tape, 0, 1), PLACE);
                is("1 item", x.tape(tape, sort, 1), 1);
                is("it is 0", x.peek(tape, 0), 0);
                is("none behind it", x.item(tape, 1, 1), PLACE);
                is("59 items", x.tape(tape, sort, 59), 1);
                for (int i = 0; i < 59; i++) {
                    is("all 0", x.peek(tape, i), 0);
                }
                is("60 items", x.tape(tape, (sort + 1) % 5, 60), 1);
                is("all 0", x.peek(tape, 59), 0);
                int[] any = {0, 5, 60, 61, -1, LOW, HIGH};
                for (int n : any) {
                    x.tape(tape, sort, 2);
                    is("nothing, n " + n, x.tape(tape, -1, n), 1);
                    is("nothing is there", x.item(tape, 0, 1), NOTHING);
                    is("nothing is there", x.peek(tape, 0), NO);
                    is("nothing again", x.tape(tape, -1, n), 1);
                }
            }
        }
    }

    private static void tapesRefused() {
        edge.part("promise 34: NONE, BAD, SIZE");
        for (int tape : NO_TAPE) {
            edge.refused("tape(" + tape + ", 0, 1)", NONE, x -> x.tape(tape, 0, 1));
            edge.refused("tape(" + tape + ", -1, 1)", NONE, x -> x.tape(tape, -1, 1));
            edge.refused("NONE ahead of BAD", NONE, x -> x.tape(tape, 5, 61));
            edge.refused("NONE ahead of SIZE", NONE, x -> x.tape(tape, 0, -1));
        }
        int[] noSort = {-2, 5, LOW, HIGH};
        for (int sort : noSort) {
            edge.refused("tape(0, " + sort + ", 1)", BAD, x -> x.tape(0, sort, 1));
            edge.refused("tape(0, " + sort + ", -1), BAD ahead of SIZE", BAD, x -> x.tape(0, sort, -1));
        }
        int[] noSize = {61, 62, HIGH};
        for (int n : noSize) {
            edge.refused("tape(0, 2, " + n + ")", BAD, x -> x.tape(0, INTS, n));
        }
        int[] below = {-1, -60, LOW};
        for (int n : below) {
            for (int s = 0; s < 5; s++) {
                int sort = s;
                edge.refused("tape(0, " + s + ", " + n + ")", SIZE, x -> x.tape(0, sort, n));
            }
        }
    }

    private static void itemsCut() {
        edge.part("promises 35, 36: its lowest bits, as many as an item has; whether it is not 0");
        long[] v = {0, 1, -1, 127, 128, -128, -129, 255, 256, 32767, 32768, -32768, -32769, 65535, 65536, HIGH,
            HIGH + 1L, LOW, LOW - 1L, 0xFFFFFFFFL, 1L << 32, Long.MAX_VALUE, Long.MIN_VALUE, Long.MIN_VALUE + 1};
        long[] b = {0, 1, -1, 127, -128, -128, 127, -1, 0, -1, 0, 0, -1, -1, 0, -1, 0, 0, -1, -1, 0, -1, 0, 1};
        long[] s = {0, 1, -1, 127, 128, -128, -129, 255, 256, 32767, -32768, -32768, 32767, -1, 0, -1, 0, 0, -1,
            -1, 0, -1, 0, 1};
        long[] n = {0, 1, -1, 127, 128, -128, -129, 255, 256, 32767, 32768, -32768, -32769, 65535, 65536, HIGH,
            LOW, LOW, HIGH, -1, 0, -1, 0, 1};
        LegHedge x = new LegHedge();
        for (int sort = 0; sort < 5; sort++) {
            x.tape(sort, sort, 3);
            x.item(sort, 0, 1);
            x.item(sort, 2, 1);
        }
        for (int i = 0; i < v.length; i++) {
            long[] want = {b[i], s[i], n[i], v[i], v[i] == 0 ? 0 : 1};
            for (int sort = 0; sort < 5; sort++) {
                is("item", x.item(sort, 1, v[i]), 1);
                is(v[i] + " by sort " + sort, x.peek(sort, 1), want[sort]);
            }
        }
        for (int sort = 0; sort < 5; sort++) {
            is("the one ahead of it", x.peek(sort, 0), 1);
            is("the one behind it", x.peek(sort, 2), 1);
        }
    }

    private static void itemsRefused() {
        edge.part("promises 35, 36: NONE, NOTHING, PLACE; NO");
        for (int tape : NO_TAPE) {
            edge.refused("item(" + tape + ", 0, 1)", NONE, x -> x.item(tape, 0, 1));
            edge.refused("item(" + tape + ", -1, 1)", NONE, x -> x.item(tape, -1, 1));
            edge.refused("peek(" + tape + ", 0)", NO, x -> x.peek(tape, 0));
        }
        int[] noPlace = {-1, 3, 60, LOW, HIGH};
        for (int i : noPlace) {
            edge.refused("item(0, " + i + ", 1)", PLACE, x -> x.item(0, i, 1));
            edge.refused("peek(0, " + i + ")", NO, x -> x.peek(0, i));
            edge.refused("item(5, " + i + ", 1), NOTHING ahead of PLACE", NOTHING, x -> x.item(5, i, 1));
            edge.refused("peek(5, " + i + ")", NO, x -> x.peek(5, i));
        }
        edge.refused("item(5, 0, 1)", NOTHING, x -> x.item(5, 0, 1));
        edge.refused("peek(5, 0)", NO, x -> x.peek(5, 0));
        edge.refused("the last item", 72, x -> x.peek(0, 2));
        edge.refused("the first item", 70, x -> x.peek(0, 0));
    }

    /** TAPE 0 of a sort, 1 0 1 1 0 1 or greater ones; TAPE 1 of the sort, four of 0. */
    private static LegHedge twoTapes(int sort) {
        LegHedge x = new LegHedge();
        x.tape(0, sort, 6);
        x.tape(1, sort, 4);
        for (int i = 0; i < 6; i++) {
            x.item(0, i, sort == BOOLEANS ? (i % 3 == 1 ? 0 : 1) : 11 + i);
        }
        return x;
    }

    private static void shiftsTaken() {
        edge.part("promise 37: n items from i on come to another one from j on");
        for (int sort = 0; sort < 5; sort++) {
            for (int i = 0; i <= 6; i++) {
                for (int j = 0; j <= 4; j++) {
                    for (int n = 0; n <= 5; n++) {
                        LegHedge x = twoTapes(sort);
                        boolean fits = i + n <= 6 && j + n <= 4;
                        is("shift(0, " + i + ", 1, " + j + ", " + n + ")", x.shift(0, i, 1, j, n), fits ? n : PLACE);
                        LegHedge y = twoTapes(sort);
                        for (int k = 0; k < 4; k++) {
                            boolean came = fits && k >= j && k < j + n;
                            is("item " + k, x.peek(1, k), came ? y.peek(0, i + k - j) : 0);
                        }
                        for (int k = 0; k < 6; k++) {
                            is("item " + k + " of the first", x.peek(0, k), y.peek(0, k));
                        }
                    }
                }
            }
        }
    }

    private static void shiftsOverlapping() {
        edge.part("promise 37: to the same one, as they all were before");
        for (int i = 0; i <= 6; i++) {
            for (int j = 0; j <= 6; j++) {
                for (int n = 0; n <= 7; n++) {
                    LegHedge x = twoTapes(LONGS);
                    boolean fits = i + n <= 6 && j + n <= 6;
                    is("shift(0, " + i + ", 0, " + j + ", " + n + ")", x.shift(0, i, 0, j, n), fits ? n : PLACE);
                    for (int k = 0; k < 6; k++) {
                        boolean came = fits && k >= j && k < j + n;
                        is("item " + k, x.peek(0, k), 11 + (came ? i + k - j : k));
                    }
                }
            }
        }
        LegHedge y = new LegHedge();
        y.tape(5, BYTES, 60);
        y.item(5, 0, 7);
        is("60 of 60", y.shift(5, 0, 5, 0, 60), 60);
        is("59 of 60", y.shift(5, 0, 5, 1, 59), 59);
        is("the first stays", y.peek(5, 0), 7);
        is("and comes", y.peek(5, 1), 7);
        is("once alone", y.peek(5, 2), 0);
    }

    private static void shiftsRefused() {
        edge.part("promise 37: NONE, NOTHING, CAST, PLACE");
        for (int tape : NO_TAPE) {
            edge.refused("shift(" + tape + ", 0, 2, 0, 1)", NONE, x -> x.shift(tape, 0, 2, 0, 1));
            edge.refused("shift(0, 0, " + tape + ", 0, 1)", NONE, x -> x.shift(0, 0, tape, 0, 1));
            edge.refused("NONE ahead of NOTHING", NONE, x -> x.shift(tape, 0, 5, 0, 1));
            edge.refused("NONE ahead of NOTHING", NONE, x -> x.shift(5, 0, tape, -1, -1));
        }
        edge.refused("from nothing", NOTHING, x -> x.shift(5, 0, 0, 0, 1));
        edge.refused("to nothing", NOTHING, x -> x.shift(0, 0, 5, 0, 1));
        edge.refused("from nothing to nothing", NOTHING, x -> x.shift(5, 0, 4, 0, 0));
        edge.refused("nothing to itself", NOTHING, x -> x.shift(5, 0, 5, 0, 0));
        edge.refused("NOTHING ahead of PLACE", NOTHING, x -> x.shift(0, -1, 5, 0, 1));
        edge.refused("ints to longs", CAST, x -> x.shift(0, 0, 1, 0, 1));
        edge.refused("longs to ints", CAST, x -> x.shift(1, 0, 0, 0, 0));
        edge.refused("CAST ahead of PLACE", CAST, x -> x.shift(0, -1, 1, 0, 1));
        int[] wrong = {-1, LOW, HIGH, 4};
        for (int v : wrong) {
            edge.refused("n " + v, PLACE, x -> x.shift(0, 0, 0, 0, v));
            edge.refused("i " + v, PLACE, x -> x.shift(0, v, 2, 0, 0));
            edge.refused("j " + v, PLACE, x -> x.shift(0, 0, 2, v, 0));
            edge.refused("i, j " + v, PLACE, x -> x.shift(0, v, 0, v, 1));
            edge.refused("i, n " + v, PLACE, x -> x.shift(0, v, 0, 0, v));
            edge.refused("j, n " + v, PLACE, x -> x.shift(0, 0, 0, v, v));
            edge.refused("i 1, n " + v, PLACE, x -> x.shift(0, 1, 0, 0, v));
            edge.refused("j 1, n " + v, PLACE, x -> x.shift(0, 0, 0, 1, v));
        }
        edge.refused("beyond the other's end", PLACE, x -> x.shift(0, 0, 2, 0, 3));
        edge.refused("beyond its own end", PLACE, x -> x.shift(2, 0, 0, 0, 3));
        edge.refused("i + n wraps", PLACE, x -> x.shift(0, HIGH, 2, 0, 2));
        edge.refused("j + n wraps", PLACE, x -> x.shift(0, 0, 2, HIGH, 2));
        edge.refused("none at both ends", 0, x -> x.shift(0, 3, 2, 2, 0));
        edge.refused("none beyond the end", PLACE, x -> x.shift(0, 4, 2, 2, 0));
        edge.refused("none beyond the other's end", PLACE, x -> x.shift(0, 3, 2, 3, 0));
    }
}
