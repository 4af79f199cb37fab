/** Promises 1 to 8 at their edges: GROUNDS, MOVES, OFFSETS. */
public final class EdgeGroundsTest {
    private static final int LOW = Edge.LOW, HIGH = Edge.HIGH, NONE = Edge.NONE, BAD = Edge.BAD;
    private static final int FULL = Edge.FULL, OVER = Edge.OVER;
    private static final int[] LEAST = {1, 0, 1, 0, 0, 0};
    private static final int[] MOST = {999, 99, 1000000, 99, 99, 99};
    private static final int[] FIRST = {100, 20, 1, 10, 2, 1};
    private static final int[] NO_GROUND = {-1, 5, LOW, HIGH};
    private static final Edge edge = new Edge();

    private EdgeGroundsTest() {
    }

    public static void main(String[] args) {
        nothingAtFirst();
        groundsAreTaken();
        groundsAreRefused();
        groundsOver();
        groundsAsked();
        movesAreTaken();
        movesAreRefused();
        movesFullAndOver();
        stills();
        prices();
        unrests();
        movedRefused();
        offsetsAreTaken();
        offsetsAreRefused();
        offsetsFullAndOver();
        unsets();
        edge.end();
    }

    private static void is(String call, long got, long want) {
        edge.is(call, got, want);
    }

    private static LegHedge fullMoves() {
        LegHedge x = Look.rich();
        for (int i = 2; i < 8; i++) {
            x.move(i, i - 5, 10 * i);
        }
        return x;
    }

    private static LegHedge fullOffsets() {
        LegHedge x = Look.rich();
        for (int i = 2; i < 6; i++) {
            x.offset(i - 1, i - 2, i, 1, 0, 10 * i);
        }
        return x;
    }

    private static void nothingAtFirst() {
        edge.part("promise 1: all as at first");
        LegHedge x = new LegHedge();
        for (int g = 0; g < 5; g++) {
            for (int what = 0; what < 6; what++) {
                is("groundOf(" + g + ", " + what + ")", x.groundOf(g, what), FIRST[what]);
            }
            for (int what = 0; what < 11; what++) {
                is("risk(" + g + ", " + what + ")", x.risk(g, what), 0);
            }
            is("moved(" + g + ", -1, 0)", x.moved(g, -1, 0), 100);
            is("moved(" + g + ", 0, 0)", x.moved(g, 0, 0), NONE);
            is("row(" + g + ", 0)", x.row(g, 0), Edge.NO);
            is("hedge(" + g + ", 5)", x.hedge(g, 5), 0);
            is("share(" + g + ", 0)", x.share(g, 0), Edge.NO);
        }
        for (int what = 0; what < 9; what++) {
            is("told(" + what + ")", x.told(what), 0);
        }
        for (int what = 0; what < 7; what++) {
            is("count(" + what + ")", x.count(what), 0);
        }
        for (int tape = 0; tape < 6; tape++) {
            is("peek(" + tape + ", 0)", x.peek(tape, 0), Edge.NO);
            is("item(" + tape + ", 0, 1)", x.item(tape, 0, 1), Edge.NOTHING);
        }
        is("find(0, 0, 0, 0)", x.find(0, 0, 0, 0), Edge.NOT_THERE);
        is("legOf(0, 0)", x.legOf(0, 0), Edge.NO);
        is("value(0, -1)", x.value(0, -1), NONE);
        is("taken(0, 0)", x.taken(0, 0), NONE);
        is("loss(0, 0)", x.loss(0, 0), Edge.NO);
        is("order(0)", x.order(0), NONE);
        is("used(0, 0)", x.used(0, 0), NONE);
        is("ordered(0)", x.ordered(0), 0);
        is("still(0)", x.still(0), NONE);
        is("unset(0)", x.unset(0), NONE);
        is("fits(0)", x.fits(0), 10);
        is("fits(1)", x.fits(1), 0);
        is("ends()", x.ends(), 0);
        is("undo()", x.undo(), Edge.STATE);
        is("read()", x.read(), -10);
        is("image()", x.image(), 0);
        is("undo()", x.undo(), 0);
        is("another object is as at first, too", changedAndNew(), 100);
    }

    private static int changedAndNew() {
        LegHedge x = new LegHedge();
        x.ground(0, 0, 50);
        return new LegHedge().groundOf(0, 0);
    }

    private static void groundsAreTaken() {
        edge.part("promise 2: least and greatest, what it was");
        for (int g = 0; g < 5; g++) {
            for (int what = 0; what < 6; what++) {
                LegHedge x = new LegHedge();
                String call = "ground(" + g + ", " + what + ", ";
                is(call + "least)", x.ground(g, what, LEAST[what]), FIRST[what]);
                is(call + "least) is there", x.groundOf(g, what), LEAST[what]);
                is(call + "greatest)", x.ground(g, what, MOST[what]), LEAST[what]);
                is(call + "greatest) is there", x.groundOf(g, what), MOST[what]);
                is(call + "greatest) again", x.ground(g, what, MOST[what]), MOST[what]);
                for (int h = 0; h < 5; h++) {
                    for (int other = 0; other < 6; other++) {
                        if (h != g || other != what) {
                            is(call + "..) leaves " + h + ", " + other, x.groundOf(h, other), FIRST[other]);
                        }
                    }
                }
            }
        }
    }

    private static void groundsAreRefused() {
        edge.part("promise 2: NONE, BAD");
        for (int w = 0; w < 6; w++) {
            int what = w;
            int[] wrong = {LEAST[w] - 1, MOST[w] + 1, LOW, HIGH};
            for (int v : wrong) {
                edge.refused("ground(0, " + w + ", " + v + ")", BAD, x -> x.ground(0, what, v));
                edge.refused("ground(4, " + w + ", " + v + ")", BAD, x -> x.ground(4, what, v));
            }
        }
        for (int g : NO_GROUND) {
            edge.refused("ground(" + g + ", 0, 5)", NONE, x -> x.ground(g, 0, 5));
            edge.refused("ground(" + g + ", 0, 0), NONE ahead of BAD", NONE, x -> x.ground(g, 0, 0));
        }
        int[] noWhat = {-1, 6, LOW, HIGH};
        for (int what : noWhat) {
            edge.refused("ground(0, " + what + ", 5)", NONE, x -> x.ground(0, what, 5));
            edge.refused("ground(0, " + what + ", -1)", NONE, x -> x.ground(0, what, -1));
        }
    }

    private static void groundsOver() {
        edge.part("promise 2: OVER");
        // 10 times SIZE times 10 times 100 at most: SIZE 214748
        is("a SIZE that is not OVER", Look.rich().ground(0, 2, 50000), 1);
        edge.refused("ground(0, 2, 1000000)", OVER, x -> x.ground(0, 2, 1000000));
        LegHedge x = new LegHedge();
        x.trade(0, 0, 0, 0, 10);
        x.move(10, 0, 100);
        is("SIZE", x.ground(0, 2, 214749), OVER);
        is("SIZE as it was", x.groundOf(0, 2), 1);
        is("SIZE", x.ground(0, 2, 214748), 1);
        is("RANGE", x.ground(0, 3, 11), OVER);
        is("RANGE as it was", x.groundOf(0, 3), 10);
        is("LOSS as it was", x.loss(0, 0), -21474800);
    }

    private static void groundsAsked() {
        edge.part("promise 3");
        for (int g : NO_GROUND) {
            edge.refused("groundOf(" + g + ", 0)", NONE, x -> x.groundOf(g, 0));
        }
        int[] noWhat = {-1, 6, LOW, HIGH};
        for (int what : noWhat) {
            edge.refused("groundOf(0, " + what + ")", NONE, x -> x.groundOf(0, what));
        }
    }

    private static void movesAreTaken() {
        edge.part("promise 4: least and greatest");
        LegHedge x = new LegHedge();
        x.trade(0, 0, 0, 0, 1);
        x.ground(0, 0, 500);
        is("UP -99", x.move(-99, 0, 100), 0);
        is("UP 99", x.move(99, 0, 100), 1);
        is("STIR -9", x.move(0, -9, 100), 2);
        is("STIR 9", x.move(0, 9, 100), 3);
        is("WEIGHT 1", x.move(-99, 0, 1), 4);
        is("WEIGHT 100", x.move(99, 0, 100), 5);
        int[] price = {401, 599, 500, 500, 401, 599};
        int[] unrest = {20, 20, 11, 29, 20, 20};
        int[] loss = {99, -99, 0, 0, 0, -99};
        for (int move = 0; move < 6; move++) {
            is("price by " + move, x.moved(0, move, 0), price[move]);
            is("unrest by " + move, x.moved(0, move, 1), unrest[move]);
            is("loss by " + move, x.loss(0, move), loss[move]);
        }
        is("a LOSS of WEIGHT 1", x.trade(0, 0, 0, 0, 99), 100);
        is("a LOSS of WEIGHT 1", x.loss(0, 4), 99);
        is("MOVES alike", x.move(99, 0, 100), 6);
        is("the eighth", x.move(99, 0, 100), 7);
    }

    private static void movesAreRefused() {
        edge.part("promise 4: BAD");
        int[] ups = {-100, 100, LOW, HIGH};
        for (int up : ups) {
            edge.refused("move(" + up + ", 0, 1)", BAD, x -> x.move(up, 0, 1));
        }
        int[] stirs = {-10, 10, LOW, HIGH};
        for (int stir : stirs) {
            edge.refused("move(0, " + stir + ", 1)", BAD, x -> x.move(0, stir, 1));
        }
        int[] weights = {0, 101, -1, LOW, HIGH};
        for (int weight : weights) {
            edge.refused("move(0, 0, " + weight + ")", BAD, x -> x.move(0, 0, weight));
        }
    }

    private static void movesFullAndOver() {
        edge.part("promise 4: FULL, OVER");
        is("eight", fullMoves().told(7), 8);
        edge.same("a ninth", EdgeGroundsTest::fullMoves, FULL, x -> x.move(0, 0, 1));
        edge.same("a ninth, BAD ahead of FULL", EdgeGroundsTest::fullMoves, BAD, x -> x.move(100, 0, 1));
        edge.same("a ninth, BAD ahead of FULL", EdgeGroundsTest::fullMoves, BAD, x -> x.move(0, 0, 0));
        edge.same("one that is OVER", EdgeGroundsTest::nearOver, OVER, x -> x.move(2, 0, 100));
        is("one that is not", nearOver().move(1, 0, 100), 2);
        LegHedge x = nearOver();
        for (int i = 2; i < 8; i++) {
            is("move", x.move(0, 0, 1), i);
        }
        is("a ninth, FULL ahead of OVER", x.move(99, 0, 100), FULL);
        is("still(7)", x.still(7), 7);
        is("OVER", x.move(99, 0, 100), OVER);
        is("a MOVE comes again", x.move(0, 0, 1), 7);
    }

    /** Eleven of SIZE 1000000: a price of one more by all WEIGHT is 1100000000, of two more OVER. */
    private static LegHedge nearOver() {
        LegHedge x = new LegHedge();
        x.move(0, 1, 1);
        x.move(0, 2, 1);
        x.ground(0, 2, 1000000);
        x.trade(0, 0, 0, 0, 11);
        return x;
    }

    private static void stills() {
        edge.part("promise 5");
        int[] none = {-1, 2, 8, LOW, HIGH};
        for (int move : none) {
            edge.refused("still(" + move + ")", NONE, x -> x.still(move));
        }
        edge.same("still(8) of eight", EdgeGroundsTest::fullMoves, NONE, x -> x.still(8));
        for (int gone = 0; gone < 8; gone++) {
            LegHedge x = new LegHedge();
            x.trade(0, 0, 0, 0, -100);
            for (int i = 0; i < 8; i++) {
                x.move(10 + i, i - 4, 10 + i);
            }
            is("still(" + gone + ")", x.still(gone), 7);
            is("told(7)", x.told(7), 7);
            for (int move = 0; move < 7; move++) {
                int i = move < gone ? move : move + 1;
                is("price", x.moved(0, move, 0), 110 + i);
                is("unrest", x.moved(0, move, 1), 16 + i);
                is("loss", x.loss(0, move), (10 + i) * (10 + i));
                is("row", x.row(0, move), (10 + i) * (10 + i));
            }
            is("there is no eighth", x.moved(0, 7, 0), NONE);
            is("SCAN", x.risk(0, 0), gone == 7 ? 256 : 289);
        }
        LegHedge y = Look.rich();
        is("still(1)", y.still(1), 1);
        is("still(0)", y.still(0), 0);
        is("still(0) of none", y.still(0), NONE);
        is("SCANS without MOVES", y.told(1), 0);
        is("WORST without MOVES", y.told(4), 0);
        is("PER without MOVES", y.risk(0, 3), 0);
    }

    private static void prices() {
        edge.part("promise 6: a price by a MOVE, cut towards 0, 1 at least");
        LegHedge x = new LegHedge();
        int[] ups = {19, -19, 9, -9, 10, -10, 99, -99};
        for (int up : ups) {
            x.move(up, 0, 1);
        }
        x.ground(0, 3, 1);
        x.ground(1, 3, 0);
        x.ground(2, 3, 99);
        x.ground(2, 0, 999);
        int[] by1 = {101, 99, 100, 100, 101, 99, 109, 91};
        int[] by99 = {999 + 188, 999 - 188, 999 + 89, 999 - 89, 999 + 99, 999 - 99, 999 + 980, 999 - 980};
        for (int move = 0; move < 8; move++) {
            is("RANGE 1, move " + move, x.moved(0, move, 0), by1[move]);
            is("RANGE 0, move " + move, x.moved(1, move, 0), 100);
            is("RANGE 99, move " + move, x.moved(2, move, 0), by99[move]);
        }
        int[] from = {10, 11, 12, 9, 1, 20};
        int[] to = {1, 1, 2, 1, 1, 10};
        for (int i = 0; i < from.length; i++) {
            x.ground(3, 0, from[i]);
            is("10 less than " + from[i], x.moved(3, 5, 0), to[i]);
            is("as it is", x.moved(3, -1, 0), from[i]);
        }
        x.ground(4, 0, 1);
        x.ground(4, 3, 99);
        is("far below 0", x.moved(4, 7, 0), 1);
        is("from 1 on", x.moved(4, 6, 0), 981);
    }

    private static void unrests() {
        edge.part("promise 6: an unrest by a MOVE, 0 at least");
        LegHedge x = new LegHedge();
        x.move(0, -9, 1);
        x.move(0, 9, 1);
        int[] from = {10, 9, 8, 0, 99};
        int[] less = {1, 0, 0, 0, 90};
        for (int i = 0; i < from.length; i++) {
            x.ground(0, 1, from[i]);
            is("9 less than " + from[i], x.moved(0, 0, 1), less[i]);
            is("9 more than " + from[i], x.moved(0, 1, 1), from[i] + 9);
            is("as it is", x.moved(0, -1, 1), from[i]);
        }
    }

    private static void movedRefused() {
        edge.part("promise 6: NONE");
        for (int g : NO_GROUND) {
            edge.refused("moved(" + g + ", 0, 0)", NONE, x -> x.moved(g, 0, 0));
        }
        int[] noMove = {-2, 2, 8, LOW, HIGH};
        for (int move : noMove) {
            edge.refused("moved(0, " + move + ", 0)", NONE, x -> x.moved(0, move, 0));
        }
        int[] noWhat = {-1, 2, LOW, HIGH};
        for (int what : noWhat) {
            edge.refused("moved(0, 0, " + what + ")", NONE, x -> x.moved(0, 0, what));
            edge.refused("moved(0, -1, " + what + ")", NONE, x -> x.moved(0, -1, what));
        }
        edge.same("moved() by the eighth", EdgeGroundsTest::fullMoves, 107, x -> x.moved(0, 7, 0));
        edge.same("moved() by a ninth", EdgeGroundsTest::fullMoves, NONE, x -> x.moved(0, 8, 0));
    }

    private static void offsetsAreTaken() {
        edge.part("promise 7: least and greatest");
        LegHedge x = new LegHedge();
        x.move(10, 0, 100);
        x.move(-10, 0, 100);
        x.trade(0, 0, 0, 0, 90);
        x.trade(4, 0, 0, 0, 90);
        is("SIDE 1, RATE 100, PARTS 1, 9", x.offset(0, 4, 1, 9, 1, 100), 0);
        is("k", x.used(0, 0), 10);
        is("CREDIT", x.used(0, 1), 10 * (10 + 90));
        x.unset(0);
        is("PARTS 9, 1", x.offset(0, 4, 9, 1, 1, 1), 0);
        is("k", x.used(0, 0), 10);
        is("CREDIT", x.used(0, 1), 10 * (90 + 10) / 100);
        x.unset(0);
        is("RATE 0", x.offset(4, 0, 1, 1, 1, 0), 0);
        is("k", x.used(0, 0), 90);
        is("CREDIT", x.used(0, 1), 0);
        x.unset(0);
        is("SIDE 0", x.offset(4, 0, 1, 1, 0, 100), 0);
        is("k", x.used(0, 0), 0);
        is("one of the same GROUNDS", x.offset(4, 0, 1, 1, 0, 100), 1);
        is("these the other way", x.offset(0, 4, 1, 1, 0, 100), 2);
        is("one of others", x.offset(1, 3, 1, 1, 0, 100), 3);
        is("a fifth", x.offset(3, 1, 1, 1, 1, 100), 4);
        is("a sixth", x.offset(0, 1, 1, 1, 1, 100), 5);
        is("told(8)", x.told(8), 6);
    }

    private static void offsetsAreRefused() {
        edge.part("promise 7: NONE, BAD");
        for (int g : NO_GROUND) {
            edge.refused("a " + g, NONE, x -> x.offset(g, 1, 1, 1, 0, 1));
            edge.refused("b " + g, NONE, x -> x.offset(1, g, 1, 1, 0, 1));
            edge.refused("a, b " + g, NONE, x -> x.offset(g, g, 1, 1, 0, 1));
            edge.refused("a, NONE ahead of BAD", NONE, x -> x.offset(g, 1, 0, 1, 0, 1));
            edge.refused("b, NONE ahead of BAD", NONE, x -> x.offset(1, g, 1, 1, 0, 101));
        }
        for (int g = 0; g < 5; g++) {
            int both = g;
            edge.refused("twice " + g, NONE, x -> x.offset(both, both, 1, 1, 0, 1));
            edge.refused("twice " + g + ", NONE ahead of BAD", NONE, x -> x.offset(both, both, 1, 10, 0, 1));
        }
        int[] noParts = {0, 10, -1, LOW, HIGH};
        for (int parts : noParts) {
            edge.refused("PARTS " + parts + ", 1", BAD, x -> x.offset(1, 2, parts, 1, 0, 1));
            edge.refused("PARTS 1, " + parts, BAD, x -> x.offset(1, 2, 1, parts, 0, 1));
        }
        int[] noSide = {-1, 2, LOW, HIGH};
        for (int side : noSide) {
            edge.refused("SIDE " + side, BAD, x -> x.offset(1, 2, 1, 1, side, 1));
        }
        int[] noRate = {-1, 101, LOW, HIGH};
        for (int rate : noRate) {
            edge.refused("RATE " + rate, BAD, x -> x.offset(1, 2, 1, 1, 0, rate));
        }
    }

    private static void offsetsFullAndOver() {
        edge.part("promise 7: FULL, OVER");
        is("six", fullOffsets().told(8), 6);
        edge.same("a seventh", EdgeGroundsTest::fullOffsets, FULL, x -> x.offset(1, 2, 1, 1, 0, 1));
        edge.same("a seventh, NONE first", EdgeGroundsTest::fullOffsets, NONE, x -> x.offset(1, 1, 1, 1, 0, 1));
        edge.same("a seventh, BAD first", EdgeGroundsTest::fullOffsets, BAD, x -> x.offset(1, 2, 1, 1, 0, 101));
        edge.same("OVER", EdgeGroundsTest::muchOffset, OVER, x -> x.offset(0, 1, 1, 1, 0, 100));
        LegHedge x = muchOffset();
        is("not OVER", x.offset(0, 1, 1, 1, 0, 97), 0);
        for (int i = 1; i < 6; i++) {
            is("offset", x.offset(2, 3, 1, 1, 0, 1), i);
        }
        is("FULL ahead of OVER", x.offset(0, 1, 1, 1, 0, 100), FULL);
        is("unset(5)", x.unset(5), 5);
        is("OVER", x.offset(0, 1, 1, 1, 0, 100), OVER);
        is("an OFFSET comes again", x.offset(2, 3, 1, 1, 0, 1), 5);
    }

    /** k 1100000 times PER 10 and 10: times RATE 97 an int's, times 98 not. */
    private static LegHedge muchOffset() {
        LegHedge x = new LegHedge();
        x.move(10, 0, 100);
        x.move(-10, 0, 100);
        for (int i = 0; i < 2; i++) {
            x.trade(0, 0, 0, 0, 550000);
            x.trade(1, 0, 0, 0, -550000);
        }
        return x;
    }

    private static void unsets() {
        edge.part("promise 8");
        int[] none = {-1, 2, 6, LOW, HIGH};
        for (int offset : none) {
            edge.refused("unset(" + offset + ")", NONE, x -> x.unset(offset));
        }
        edge.same("unset(6) of six", EdgeGroundsTest::fullOffsets, NONE, x -> x.unset(6));
        for (int gone = 0; gone < 6; gone++) {
            LegHedge x = new LegHedge();
            x.move(10, 0, 100);
            x.move(-10, 0, 100);
            x.trade(0, 0, 0, 0, 100);
            x.trade(1, 0, 0, 0, -1);
            for (int i = 0; i < 6; i++) {
                x.offset(0, 1, 1, 1, 0, 10 + 5 * i);
            }
            is("unset(" + gone + ")", x.unset(gone), 5);
            is("told(8)", x.told(8), 5);
            // the one ten tenths of 1 go to whichever is first: 20 times RATE by 100
            for (int first = 0; first < 5; first++) {
                int i = first < gone ? first : first + 1;
                is("ordered", x.ordered(first * 24), (10 + 5 * i) * 20 / 100);
            }
            is("there is no sixth", x.used(5, 0), NONE);
            is("order(0)", x.order(0), 4);
        }
        LegHedge y = Look.rich();
        is("unset(1)", y.unset(1), 1);
        is("unset(0)", y.unset(0), 0);
        is("unset(0) of none", y.unset(0), NONE);
        is("CREDITS without OFFSETS", y.told(5), 0);
        is("MARGIN without CREDITS", y.told(0), y.told(1) + y.told(2));
    }
}
