/** Promises 9 to 15 at their edges: LEGS, their VALUES, LOSSES, ROWS. */
public final class EdgeLegsTest {
    private static final int LOW = Edge.LOW, HIGH = Edge.HIGH, NONE = Edge.NONE, BAD = Edge.BAD;
    private static final int FULL = Edge.FULL, NOT_THERE = Edge.NOT_THERE, CAST = Edge.CAST;
    private static final long NO = Edge.NO;
    private static final int[] NO_GROUND = {-1, 5, LOW, HIGH}, NO_KIND = {-1, 5, LOW, HIGH};
    private static final int[] NO_EXPIRY = {-1, 6, LOW, HIGH}, NO_STRIKE = {-1, 1000, LOW, HIGH};
    private static final int FUTURE = 0, CALL = 1, PUT = 2, CAPPED = 3, BOTH = 4;
    private static final Edge edge = new Edge();

    private EdgeLegsTest() {
    }

    public static void main(String[] args) {
        tradesAreTaken();
        tradesAreRefused();
        refusalsInTheirOrder();
        netting();
        twentyFour();
        asOftenAsItIsUsed();
        finds();
        legsAsked();
        valuesOfMoney();
        valuesOfTime();
        valuesByMoves();
        valuesRefused();
        deltas();
        takens();
        lossesCut();
        lossesAndRowsRefused();
        rows();
        edge.end();
    }

    private static void is(String call, long got, long want) {
        edge.is(call, got, want);
    }

    private static LegHedge fullLegs() {
        LegHedge x = new LegHedge();
        x.move(-10, 0, 100);
        for (int i = 0; i < 24; i++) {
            x.trade(i % 5, CALL, i % 6, 90 + i, i + 1);
        }
        return x;
    }

    private static void tradesAreTaken() {
        edge.part("promise 9: least and greatest");
        for (int g = 0; g < 5; g++) {
            for (int kind = 0; kind < 5; kind++) {
                LegHedge x = new LegHedge();
                String call = "trade(" + g + ", " + kind + ", ..)";
                int strike = kind == FUTURE ? 0 : 999;
                is(call, x.trade(g, kind, 0, 0, 1), 1);
                is(call, x.trade(g, kind, 5, strike, -1), -1);
                is(call, x.trade(g, kind, 5, 0, 1000000), kind == FUTURE ? 999999 : 1000000);
                is(call, x.trade(g, kind, 0, strike, -1000000), kind == FUTURE ? -999999 : -1000000);
                is("LEGS", x.told(6), kind == FUTURE ? 2 : 4);
            }
        }
    }

    private static void tradesAreRefused() {
        edge.part("promises 9, 21: NONE, BAD; what would() refuses");
        for (int g : NO_GROUND) {
            refusedTrade(NONE, g, CALL, 0, 100, 1);
        }
        for (int kind : NO_KIND) {
            refusedTrade(NONE, 0, kind, 0, 100, 1);
            refusedTrade(NONE, 0, kind, 0, 0, 1);
        }
        for (int expiry : NO_EXPIRY) {
            refusedTrade(NONE, 0, CALL, expiry, 100, 1);
        }
        for (int strike : NO_STRIKE) {
            for (int kind = 0; kind < 5; kind++) {
                refusedTrade(BAD, 0, kind, 0, strike, 1);
            }
        }
        refusedTrade(BAD, 0, FUTURE, 0, 1, 1);
        refusedTrade(BAD, 0, FUTURE, 0, 999, 1);
        int[] noQ = {0, 1000001, -1000001, LOW, HIGH};
        for (int q : noQ) {
            refusedTrade(BAD, 0, FUTURE, 0, 0, q);
            refusedTrade(BAD, 4, PUT, 5, 100, q);
        }
    }

    private static void refusedTrade(int want, int g, int kind, int expiry, int strike, int q) {
        String with = g + ", " + kind + ", " + expiry + ", " + strike + ", " + q;
        edge.refused("trade(" + with + ")", want, x -> x.trade(g, kind, expiry, strike, q));
        edge.refused("would(" + with + ")", NO, x -> x.would(g, kind, expiry, strike, q));
    }

    private static void refusalsInTheirOrder() {
        edge.part("promise 9: the first that its words name");
        refusedTrade(NONE, 5, CALL, 0, 1000, 0);
        refusedTrade(NONE, 0, 5, 0, 1000, 0);
        refusedTrade(NONE, 0, CALL, 6, 1000, 0);
        edge.same("NONE ahead of FULL", EdgeLegsTest::fullLegs, NONE, x -> x.trade(5, CALL, 0, 1, 1));
        edge.same("strike ahead of FULL", EdgeLegsTest::fullLegs, BAD, x -> x.trade(0, CALL, 0, 1000, 1));
        edge.same("q ahead of FULL", EdgeLegsTest::fullLegs, BAD, x -> x.trade(0, CALL, 0, 1, 0));
        // by SIZE 1000000, 2148 would be OVER
        LegHedge x = new LegHedge();
        x.ground(0, 2, 1000000);
        x.move(0, 0, 1);
        is("OVER", x.trade(0, FUTURE, 0, 0, 2148), Edge.OVER);
        is("BAD ahead of OVER", x.trade(0, FUTURE, 0, 0, 1000001), BAD);
        for (int i = 0; i < 24; i++) {
            x.trade(1, CALL, 0, i, 1);
        }
        is("FULL ahead of OVER", x.trade(0, FUTURE, 0, 0, 2148), FULL);
    }

    private static void netting() {
        edge.part("promise 9: a TRADE adds to its LEG; at 0 it is none any more");
        for (int gone = 0; gone < 4; gone++) {
            LegHedge x = new LegHedge();
            for (int i = 0; i < 4; i++) {
                is("trade", x.trade(i, CALL, i, 100 + i, 10 + i), 10 + i);
            }
            is("less", x.trade(gone, CALL, gone, 100 + gone, -9 - gone), 1);
            is("still there", x.find(gone, CALL, gone, 100 + gone), gone);
            is("below 0", x.trade(gone, CALL, gone, 100 + gone, -3), -2);
            is("still there", x.find(gone, CALL, gone, 100 + gone), gone);
            is("at 0", x.trade(gone, CALL, gone, 100 + gone, 2), 0);
            is("told(6)", x.told(6), 3);
            is("find", x.find(gone, CALL, gone, 100 + gone), NOT_THERE);
            for (int leg = 0; leg < 3; leg++) {
                int i = leg < gone ? leg : leg + 1;
                is("GROUND", x.legOf(leg, 0), i);
                is("KIND", x.legOf(leg, 1), CALL);
                is("EXPIRY", x.legOf(leg, 2), i);
                is("STRIKE", x.legOf(leg, 3), 100 + i);
                is("QUANTITY", x.legOf(leg, 4), 10 + i);
            }
            is("there is no fourth", x.legOf(3, 0), NO);
            is("anew", x.trade(gone, CALL, gone, 100 + gone, 7), 7);
            is("behind the others", x.find(gone, CALL, gone, 100 + gone), 3);
            is("QUANTITY", x.legOf(3, 4), 7);
        }
        LegHedge y = new LegHedge();
        is("one INSTRUMENT", y.trade(0, CALL, 0, 100, 1), 1);
        is("of another GROUND", y.trade(1, CALL, 0, 100, 2), 2);
        is("of another KIND", y.trade(0, PUT, 0, 100, 4), 4);
        is("of another EXPIRY", y.trade(0, CALL, 1, 100, 8), 8);
        is("of another STRIKE", y.trade(0, CALL, 0, 101, 16), 16);
        is("five LEGS", y.told(6), 5);
        is("the first", y.legOf(0, 4), 1);
    }

    private static void twentyFour() {
        edge.part("promise 9: 24 LEGS at most");
        is("24", fullLegs().told(6), 24);
        edge.same("a 25th", EdgeLegsTest::fullLegs, FULL, x -> x.trade(0, FUTURE, 0, 0, 1));
        edge.same("would a 25th", EdgeLegsTest::fullLegs, NO, x -> x.would(0, FUTURE, 0, 0, 1));
        LegHedge x = fullLegs();
        is("the last of 24", x.trade(3, CALL, 5, 113, 1), 25);
        is("the first of 24", x.trade(0, CALL, 0, 90, -1), 0);
        is("23", x.count(0), 23);
        is("find", x.find(3, CALL, 5, 113), 22);
        is("a 24th", x.trade(0, FUTURE, 0, 0, 1), 1);
        is("find", x.find(0, FUTURE, 0, 0), 23);
        is("legOf(23, 4)", x.legOf(23, 4), 1);
        is("value(23, 0)", x.value(23, 0), 90);
        is("loss(23, 0)", x.loss(23, 0), 10);
        is("a 25th", x.trade(0, FUTURE, 1, 0, 1), FULL);
    }

    private static void asOftenAsItIsUsed() {
        edge.part("an object is used for 512 calls");
        LegHedge x = new LegHedge();
        for (int i = 1; i < 512; i++) {
            is("trade", x.trade(4, CALL, 5, 999, -1000000 / 512), -(1000000 / 512) * i);
        }
        is("the 512th", x.told(0), 511 * (1000000 / 512));
    }

    private static void finds() {
        edge.part("promise 10");
        for (int g : NO_GROUND) {
            edge.refused("find(" + g + ", ..)", NONE, x -> x.find(g, CALL, 0, 1000));
        }
        for (int kind : NO_KIND) {
            edge.refused("find(0, " + kind + ", ..)", NONE, x -> x.find(0, kind, 0, 1000));
        }
        for (int expiry : NO_EXPIRY) {
            edge.refused("find(0, 1, " + expiry + ", ..)", NONE, x -> x.find(0, CALL, expiry, 1000));
        }
        for (int strike : NO_STRIKE) {
            edge.refused("find(0, 1, 0, " + strike + ")", BAD, x -> x.find(0, CALL, 0, strike));
        }
        edge.refused("find a FUTURE of STRIKE 1", BAD, x -> x.find(0, FUTURE, 0, 1));
        edge.refused("find a FUTURE of STRIKE 0", 0, x -> x.find(0, FUTURE, 0, 0));
        edge.refused("find what is none", NOT_THERE, x -> x.find(0, FUTURE, 5, 0));
        edge.refused("find a CALL of STRIKE 0", NOT_THERE, x -> x.find(0, CALL, 0, 0));
        edge.refused("find a CALL of STRIKE 999", NOT_THERE, x -> x.find(4, BOTH, 5, 999));
        edge.same("find the last of 24", EdgeLegsTest::fullLegs, 23, x -> x.find(3, CALL, 5, 113));
    }

    private static void legsAsked() {
        edge.part("promise 11");
        int[] noLeg = {-1, 6, 24, LOW, HIGH};
        for (int leg : noLeg) {
            edge.refused("legOf(" + leg + ", 4)", NO, x -> x.legOf(leg, 4));
            edge.refused("legOf(" + leg + ", 5)", NO, x -> x.legOf(leg, 5));
        }
        int[] noWhat = {-1, 6, LOW, HIGH};
        for (int what : noWhat) {
            edge.refused("legOf(0, " + what + ")", NO, x -> x.legOf(0, what));
        }
        LegHedge x = new LegHedge();
        x.trade(4, BOTH, 5, 999, -1000000);
        long[] want = {4, BOTH, 5, 999, -1000000, 10000000};
        for (int what = 0; what < 6; what++) {
            is("legOf(0, " + what + ")", x.legOf(0, what), want[what]);
        }
    }

    /** The VALUE of one such INSTRUMENT of STRIKE 100 by a PRICE. */
    private static long worth(int kind, int expiry, int price, int unrest) {
        LegHedge x = new LegHedge();
        x.trade(2, kind, expiry, kind == FUTURE ? 0 : 100, 1);
        x.ground(2, 0, price);
        x.ground(2, 1, unrest);
        return x.value(0, -1);
    }

    private static void valuesOfMoney() {
        edge.part("promise 12: MONEY about the STRIKE and the cap, without TIME");
        int[] price = {1, 99, 100, 101, 108, 109, 110, 999};
        long[][] want = {
            {1, 99, 100, 101, 108, 109, 110, 999},
            {0, 0, 0, 1, 8, 9, 10, 899},
            {99, 1, 0, 0, 0, 0, 0, 0},
            {0, 0, 0, 1, 8, 9, 9, 9},
            {99, 1, 0, 1, 8, 9, 10, 899}};
        for (int kind = 0; kind < 5; kind++) {
            for (int i = 0; i < price.length; i++) {
                is("KIND " + kind + " by " + price[i], worth(kind, 5, price[i], 0), want[kind][i]);
            }
        }
        LegHedge x = new LegHedge();
        x.ground(0, 1, 0);
        for (int kind = 1; kind < 5; kind++) {
            x.trade(0, kind, 0, 0, 1);
            x.trade(0, kind, 0, 999, 1);
        }
        // STRIKES 0, 999 of a CALL, a PUT, a CAPPED, a BOTH
        long[] at100 = {100, 0, 0, 899, 9, 0, 100, 899};
        long[] at999 = {999, 0, 0, 0, 9, 0, 999, 0};
        for (int leg = 0; leg < 8; leg++) {
            is("STRIKE 0 or 999 by 100, LEG " + leg, x.value(leg, -1), at100[leg]);
        }
        x.ground(0, 0, 999);
        for (int leg = 0; leg < 8; leg++) {
            is("STRIKE 0 or 999 by 999, LEG " + leg, x.value(leg, -1), at999[leg]);
        }
    }

    private static void valuesOfTime() {
        edge.part("promise 12: TIME, half of what is above the distance, cut");
        int[] price = {79, 80, 81, 82, 83, 99, 100, 101, 117, 118, 119, 120, 121};
        long[] time = {0, 0, 0, 1, 1, 9, 10, 9, 1, 1, 0, 0, 0};
        for (int i = 0; i < price.length; i++) {
            int above = Math.max(price[i] - 100, 0);
            int below = Math.max(100 - price[i], 0);
            is("a CALL by " + price[i], worth(CALL, 0, price[i], 20), above + time[i]);
            is("a PUT by " + price[i], worth(PUT, 0, price[i], 20), below + time[i]);
            is("a CAPPED by " + price[i], worth(CAPPED, 0, price[i], 20), Math.min(above, 9) + time[i]);
            is("a BOTH by " + price[i], worth(BOTH, 0, price[i], 20), above + below + time[i]);
            is("a FUTURE by " + price[i], worth(FUTURE, 0, price[i], 20), price[i]);
            is("without UNREST", worth(CALL, 5, price[i], 0), above);
        }
        for (int e = 0; e < 6; e++) {
            is("EXPIRY " + e, worth(CALL, e, 100, 1), (e + 1) / 2);
            is("EXPIRY " + e, worth(PUT, e, 100, 99), 99 * (e + 1) / 2);
            is("EXPIRY " + e + ", one apart", worth(PUT, e, 101, 99), (99 * (e + 1) - 1) / 2);
        }
    }

    private static void valuesByMoves() {
        edge.part("promise 12: by a MOVE, as it is");
        LegHedge x = new LegHedge();
        x.move(-99, -9, 1);
        x.move(10, 9, 1);
        x.trade(0, FUTURE, 0, 0, 5);
        x.trade(0, CALL, 1, 100, 5);
        x.trade(1, CALL, 1, 100, 5);
        x.ground(0, 0, 90);
        x.ground(0, 1, 8);
        is("a price of 1", x.value(0, 0), 1);
        is("an unrest of 0", x.value(1, 0), 0);
        is("up", x.value(0, 1), 100);
        is("up", x.value(1, 1), 17);
        is("as it is", x.value(0, -1), 90);
        is("as it is", x.value(1, -1), 3);
        is("another GROUND, up", x.value(2, 1), 10 + (58 - 10) / 2);
        is("another GROUND, as it is", x.value(2, -1), 20);
    }

    private static void valuesRefused() {
        edge.part("promise 12: NONE");
        int[] noLeg = {-1, 6, 24, LOW, HIGH};
        for (int leg : noLeg) {
            edge.refused("value(" + leg + ", 0)", NONE, x -> x.value(leg, 0));
            edge.refused("value(" + leg + ", -1)", NONE, x -> x.value(leg, -1));
        }
        int[] noMove = {-2, 2, 8, LOW, HIGH};
        for (int move : noMove) {
            edge.refused("value(0, " + move + ")", NONE, x -> x.value(0, move));
        }
    }

    /** DELTA of seven of an INSTRUMENT by a PRICE. */
    private static long delta(int kind, int strike, int price, int unrest) {
        LegHedge x = new LegHedge();
        x.ground(0, 0, price);
        x.ground(0, 1, unrest);
        x.move(50, 9, 100);
        x.trade(0, kind, 0, strike, 7);
        is("DELTA of the GROUND", x.risk(0, 4), x.legOf(0, 5));
        is("DELTA by EXPIRY", x.risk(0, 5), x.legOf(0, 5));
        return x.legOf(0, 5);
    }

    private static void deltas() {
        edge.part("promise 11: DELTA by PRICE and 1, PRICE less 1, 0 at least");
        is("a FUTURE", delta(FUTURE, 0, 100, 20), 70);
        is("a FUTURE by 1: 2 less 0", delta(FUTURE, 0, 1, 20), 70);
        is("a FUTURE by 2: 3 less 1", delta(FUTURE, 0, 2, 20), 70);
        is("a FUTURE by 999: 1000 less 998", delta(FUTURE, 0, 999, 20), 70);
        is("a CALL of 0 by 1: 2 less 0", delta(CALL, 0, 1, 0), 70);
        is("a CALL of 0 by 1: 2 and 9 less 10", delta(CALL, 0, 1, 20), 35);
        is("a PUT of 1 by 1: 0 less 1", delta(PUT, 1, 1, 0), -35);
        is("a PUT of 2 by 1: 0 less 2", delta(PUT, 2, 1, 0), -70);
        is("a PUT of 0 by 1", delta(PUT, 0, 1, 0), 0);
        is("a CALL of 999 by 999: 1 less 0", delta(CALL, 999, 999, 0), 35);
        is("a CALL of 999 by 998", delta(CALL, 999, 998, 0), 0);
        is("a CALL far below", delta(CALL, 100, 1, 20), 0);
        is("a CALL at the STRIKE", delta(CALL, 100, 100, 20), 35);
        is("a PUT at the STRIKE", delta(PUT, 100, 100, 20), -35);
        is("a BOTH at the STRIKE", delta(BOTH, 100, 100, 20), 0);
        is("a CAPPED at the cap, up to it alone", delta(CAPPED, 100, 109, 0), 35);
        is("a CAPPED beyond the cap", delta(CAPPED, 100, 110, 0), 0);
        is("a CAPPED beyond the cap, TIME less", delta(CAPPED, 100, 112, 20), -35);
    }

    private static void takens() {
        edge.part("promise 13");
        int[] price = {1, 99, 100, 101, 108, 109, 110, 999};
        long[] cap = {0, 0, 0, 1, 8, 9, 9, 9};
        for (int i = 0; i < price.length; i++) {
            LegHedge x = new LegHedge();
            x.move(99, 9, 100);
            for (int kind = 0; kind < 5; kind++) {
                x.trade(3, kind, 5, kind == FUTURE ? 0 : 100, -3);
            }
            x.ground(3, 0, price[i]);
            long above = Math.max(price[i] - 100, 0);
            long below = Math.max(100 - price[i], 0);
            long[][] want = {
                {price[i], CAST, CAST, CAST, CAST},
                {CAST, above, CAST, CAST, CAST},
                {CAST, CAST, below, CAST, CAST},
                {CAST, cap[i], CAST, cap[i], CAST},
                {CAST, CAST, above + below, CAST, above + below}};
            for (int kind = 0; kind < 5; kind++) {
                for (int k = 0; k < 5; k++) {
                    is("KIND " + kind + " taken for " + k, x.taken(kind, k), want[kind][k]);
                }
            }
        }
        int[] noLeg = {-1, 6, 24, LOW, HIGH};
        for (int leg : noLeg) {
            edge.refused("taken(" + leg + ", 0)", NONE, x -> x.taken(leg, 0));
            edge.refused("taken(" + leg + ", 5), NONE ahead of BAD", NONE, x -> x.taken(leg, 5));
        }
        for (int k : NO_KIND) {
            edge.refused("taken(0, " + k + ")", BAD, x -> x.taken(0, k));
            edge.refused("taken(4, " + k + ")", BAD, x -> x.taken(4, k));
        }
        edge.refused("taken(0, 1)", CAST, x -> x.taken(0, 1));
        edge.refused("taken(3, 3), a CALL for a CAPPED", CAST, x -> x.taken(3, 3));
    }

    private static void lossesCut() {
        edge.part("promise 14: by 100, cut towards 0");
        int[] weight = {1, 9, 10, 11, 19, 20, 99, 100};
        long[] loss = {0, 0, 1, 1, 1, 2, 9, 10};
        LegHedge x = new LegHedge();
        for (int w : weight) {
            x.move(-10, 0, w);
        }
        x.trade(0, FUTURE, 0, 0, 1);
        x.trade(0, FUTURE, 1, 0, -1);
        x.trade(1, FUTURE, 1, 0, -1);
        for (int move = 0; move < 8; move++) {
            is("long, WEIGHT " + weight[move], x.loss(0, move), loss[move]);
            is("short, WEIGHT " + weight[move], x.loss(1, move), -loss[move]);
            is("ROW", x.row(0, move), 0);
            is("ROW of 1", x.row(1, move), -loss[move]);
        }
        x.ground(0, 2, 7);
        is("SIZE 7", x.loss(0, 1), 6);
        is("SIZE 7", x.loss(1, 1), -6);
        is("SIZE of 0 alone", x.loss(2, 2), -1);
    }

    private static void lossesAndRowsRefused() {
        edge.part("promises 14, 15: NO");
        int[] noLeg = {-1, 6, 24, LOW, HIGH};
        for (int leg : noLeg) {
            edge.refused("loss(" + leg + ", 0)", NO, x -> x.loss(leg, 0));
        }
        int[] noMove = {-1, 2, 8, LOW, HIGH};
        for (int move : noMove) {
            edge.refused("loss(0, " + move + ")", NO, x -> x.loss(0, move));
            edge.refused("row(0, " + move + ")", NO, x -> x.row(0, move));
        }
        for (int g : NO_GROUND) {
            edge.refused("row(" + g + ", 0)", NO, x -> x.row(g, 0));
        }
        edge.refused("row(4, 1)", 0, x -> x.row(4, 1));
    }

    private static void rows() {
        edge.part("promise 15: LOSSES of its LEGS, each cut, together");
        LegHedge x = new LegHedge();
        x.move(-10, 0, 19);
        x.move(10, 0, 19);
        for (int e = 0; e < 6; e++) {
            x.trade(2, FUTURE, e, 0, 1);
        }
        is("six times 1, not 11", x.row(2, 0), 6);
        is("six times -1", x.row(2, 1), -6);
        is("of another GROUND", x.row(1, 0), 0);
        x.trade(2, FUTURE, 0, 0, -1);
        is("five times 1", x.row(2, 0), 5);
        is("LEG 4 now", x.loss(4, 0), 1);
        is("LEG 5 is none", x.loss(5, 0), NO);
    }
}
