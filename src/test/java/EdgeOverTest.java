/** What is OVER: of each number that can be, the last that is an int's, the first that isn't, and one that wraps. */
public final class EdgeOverTest {
    private static final int OVER = Edge.OVER, HIGH = Edge.HIGH;
    private static final long NO = Edge.NO;
    private static final int FUTURE = 0, CALL = 1, PUT = 2, BOTH = 4;
    private static final int MILLION = 1000000;
    private static final Edge edge = new Edge();

    private EdgeOverTest() {
    }

    public static void main(String[] args) {
        quantityTimesSize();
        thatTimesTheDifference();
        thatTimesWeight();
        greatestOfAnInt();
        quantityTimesFive();
        deltaOfALeg();
        deltaByExpiry();
        deltaOfAGround();
        tenTimesScan();
        tenTimesScanWithoutDelta();
        rowsAndScansBeyondTenfold();
        shortTimesFloor();
        floorsTogether();
        mTimesSpread();
        thatTimesTheGap();
        chargesTogether();
        scansAndCharges();
        creditTimesRate();
        creditInAnotherOrder();
        partsTimesPer();
        partsTimesPerTogether();
        everyCallThatCanBeOver();
        edge.end();
    }

    private static void is(String call, long got, long want) {
        edge.is(call, got, want);
    }

    /** So many in one LEG, by as many TRADES as it takes: what the last one answers. */
    private static long hold(LegHedge x, int g, int kind, int expiry, int strike, int quantity) {
        int sign = quantity < 0 ? -1 : 1;
        int rest = Math.abs(quantity);
        for (; rest > MILLION; rest -= MILLION) {
            x.trade(g, kind, expiry, strike, sign * MILLION);
        }
        return x.trade(g, kind, expiry, strike, sign * rest);
    }

    private static void quantityTimesSize() {
        edge.part("OVER: QUANTITY times SIZE");
        LegHedge x = new LegHedge();
        x.ground(0, 2, 65536);
        is("without a MOVE nothing is lost", x.trade(0, FUTURE, 0, 0, 65536), 65536);
        is("2^32, wraps to 0", x.move(0, 0, 1), OVER);
        is("told(7)", x.told(7), 0);
        is("2^31", x.trade(0, FUTURE, 0, 0, -32768), 32768);
        is("2^31", x.move(0, 0, 1), OVER);
        is("2^31 less 65536", x.trade(0, FUTURE, 0, 0, -1), 32767);
        is("2^31 less 65536", x.move(0, 0, 1), 0);
        is("2^31 by trade()", x.trade(0, FUTURE, 0, 0, 1), OVER);
        is("2^32 by trade()", x.trade(0, FUTURE, 0, 0, 32769), OVER);
        is("2^32 by ground()", x.trade(1, FUTURE, 0, 0, 65536), 65536);
        is("2^32 by ground()", x.ground(1, 2, 65536), OVER);
        is("2^31 by ground()", x.ground(1, 2, 32768), OVER);
        is("SIZE as it was", x.groundOf(1, 2), 1);
        is("2^31 less 65536 by ground()", x.ground(1, 2, 32767), 1);
        is("another LEG of its own", x.trade(1, CALL, 0, 100, 65536), 65536);
        is("-2^31 is an int", x.trade(0, FUTURE, 0, 0, -65535), -32768);
        is("-2^31 less 65536", x.trade(0, FUTURE, 0, 0, -1), OVER);
        is("QUANTITY as it was", x.legOf(0, 4), -32768);
    }

    private static void thatTimesTheDifference() {
        edge.part("OVER: that times the difference");
        LegHedge x = new LegHedge();
        x.ground(0, 2, 1024);
        x.trade(0, FUTURE, 0, 0, 65536);
        is("2^26 times -64 is -2^32, wraps to 0", x.move(64, 0, 1), OVER);
        is("2^26 times -32 is -2^31", x.move(32, 0, 1), 0);
        is("LOSS", x.loss(0, 0), Integer.MIN_VALUE / 100);
        is("2^26 times -33", x.move(33, 0, 1), OVER);
        is("2^26 times 32", x.move(-32, 0, 1), OVER);
        is("2^26 times 31", x.move(-31, 0, 1), 1);
        is("told(7)", x.told(7), 2);
        is("RANGE 11 makes -32 -35", x.ground(0, 3, 11), OVER);
        is("RANGE 9", x.ground(0, 3, 9), 10);
    }

    private static void thatTimesWeight() {
        edge.part("OVER: that times WEIGHT");
        LegHedge x = new LegHedge();
        x.ground(0, 2, 1024);
        x.trade(0, FUTURE, 0, 0, -65536);
        is("-2^26 times -1 times 64 is 2^32, wraps to 0", x.move(1, 0, 64), -15);
        is("2^31", x.move(1, 0, 32), OVER);
        is("31 times 2^26", x.move(1, 0, 31), 0);
        is("LOSS", x.loss(0, 0), 31L * (1 << 26) / 100);
        is("-2^31", x.move(-1, 0, 32), 1);
        is("-33 times 2^26", x.move(-1, 0, 33), OVER);
        is("-2^32", x.move(-1, 0, 64), OVER);
        is("told(7)", x.told(7), 2);
    }

    private static void greatestOfAnInt() {
        edge.part("OVER: 2147483646 is 2 * 3 * 3 * 7 * 11 * 31 * 151 * 331");
        LegHedge x = new LegHedge();
        x.ground(0, 2, 151 * 331);
        x.trade(0, FUTURE, 0, 0, -7 * 31);
        is("2147483646", x.move(11, 0, 2 * 3 * 3), 0);
        is("LOSS", x.loss(0, 0), 21474836);
        is("of one more WEIGHT", x.move(11, 0, 19), OVER);
        is("of one more UP", x.move(12, 0, 18), OVER);
        is("of one more SIZE", x.ground(0, 2, 151 * 331 + 1), OVER);
        is("of one more QUANTITY", x.trade(0, FUTURE, 0, 0, -1), OVER);
        is("-2147483646", x.move(-11, 0, 18), 1);
        is("LOSS", x.loss(0, 1), -21474836);
        is("told(7)", x.told(7), 2);
    }

    private static void quantityTimesFive() {
        edge.part("OVER: QUANTITY times 5");
        LegHedge x = new LegHedge();
        // a CALL far away has no DELTA: only the first product can be too great
        is("429496729 times 5", hold(x, 0, CALL, 0, 999, -429496729), -429496729);
        is("DELTA", x.legOf(0, 5), 0);
        is("430496729 times 5 is 2152483645", x.trade(0, CALL, 0, 999, -MILLION), OVER);
        is("429496730 times 5", x.trade(0, CALL, 0, 999, -1), OVER);
        is("would", x.would(0, CALL, 0, 999, -1), NO);
        is("QUANTITY as it was", x.legOf(0, 4), -429496729);
        is("another LEG", x.trade(0, PUT, 0, 999, 1), 1);
    }

    private static void deltaOfALeg() {
        edge.part("OVER: DELTA of a LEG");
        LegHedge x = new LegHedge();
        is("214748364 times 5 times 2", hold(x, 0, FUTURE, 0, 0, 214748364), 214748364);
        is("DELTA", x.legOf(0, 5), 2147483640);
        is("214748365 times 5 times 2", x.trade(0, FUTURE, 0, 0, 1), OVER);
        is("others less than it", x.trade(0, FUTURE, 1, 0, -MILLION), -MILLION);
        is("it is OVER by itself", x.trade(0, FUTURE, 0, 0, 1), OVER);
        is("less by the EXPIRY", x.trade(0, CALL, 0, 0, -10), -10);
        is("DELTA by EXPIRY", x.risk(0, 5), 2147483540);
        is("it is OVER by itself", x.trade(0, FUTURE, 0, 0, 1), OVER);
        is("DELTA of the GROUND", x.risk(0, 4), 2147483540 - 10 * MILLION);
    }

    private static void deltaByExpiry() {
        edge.part("OVER: DELTA of a GROUND by an EXPIRY");
        LegHedge x = new LegHedge();
        x.ground(0, 1, 5);
        hold(x, 0, FUTURE, 3, 0, 214748364);
        is("of another EXPIRY, unlike", x.trade(0, FUTURE, 2, 0, -10), -10);
        is("2147483645", x.trade(0, CALL, 3, 100, 1), 1);
        is("DELTA by EXPIRY 3", x.risk(0, 8), 2147483645);
        is("2147483650", x.trade(0, CALL, 3, 100, 1), OVER);
        is("a CALL out of reach has no DELTA", x.trade(0, CALL, 3, 131, 1), 1);
        is("2147483650 by ground()", x.ground(0, 1, 20), OVER);
        is("UNREST as it was", x.groundOf(0, 1), 5);
        is("QUANTITY", x.legOf(2, 4), 1);
        is("DELTA by EXPIRY 2", x.risk(0, 7), -100);
        is("DELTA", x.risk(0, 4), 2147483545);
        LegHedge y = new LegHedge();
        hold(y, 4, FUTURE, 5, 0, -214748364);
        is("-2147483645", y.trade(4, CALL, 5, 100, -1), -1);
        is("-2147483650", y.trade(4, CALL, 5, 100, -1), OVER);
        is("-2147483650", y.trade(4, PUT, 5, 100, 1), OVER);
        is("DELTA by EXPIRY 5", y.risk(4, 10), -2147483645);
    }

    private static void deltaOfAGround() {
        edge.part("OVER: DELTA of a GROUND");
        LegHedge x = new LegHedge();
        x.ground(0, 4, 0);
        hold(x, 0, FUTURE, 0, 0, 107374182);
        hold(x, 0, FUTURE, 1, 0, 107374182);
        is("2147483640", x.risk(0, 4), 2147483640);
        is("2147483645", x.trade(0, CALL, 2, 100, 1), 1);
        is("2147483650", x.trade(0, CALL, 3, 100, 1), OVER);
        is("less", x.trade(0, PUT, 3, 100, 1), 1);
        is("2147483645 again", x.trade(0, CALL, 3, 100, 1), 1);
        is("another GROUND", x.trade(1, CALL, 3, 100, 1), 1);
        LegHedge y = new LegHedge();
        y.ground(0, 4, 0);
        hold(y, 0, FUTURE, 0, 0, -107374182);
        hold(y, 0, FUTURE, 1, 0, -107374182);
        is("-2147483645", y.trade(0, PUT, 2, 100, 1), 1);
        is("-2147483650", y.trade(0, PUT, 3, 100, 1), OVER);
        is("DELTA", y.risk(0, 4), -2147483645);
    }

    /** 21 CALLS deep in the money and without TIME, 42949673 in all, by SIZE 1. */
    private static LegHedge deepCalls() {
        LegHedge x = new LegHedge();
        x.ground(0, 1, 0);
        x.ground(0, 4, 0);
        for (int i = 0; i < 20; i++) {
            hold(x, 0, CALL, 0, i, 2147483);
        }
        x.trade(0, CALL, 0, 20, 13);
        return x;
    }

    private static void tenTimesScan() {
        edge.part("OVER: 10 times SCAN");
        LegHedge x = deepCalls();
        is("SCAN 429496730, tenfold wraps to 4", x.move(-10, 0, 100), OVER);
        is("SCAN 214748365", x.move(-5, 0, 100), OVER);
        is("as far up", x.move(5, 0, 100), 0);
        is("SCAN 171798692", x.move(-4, 0, 100), 1);
        is("SCAN", x.risk(0, 0), 171798692);
        is("PER", x.risk(0, 3), 4);
        is("four times 10737418 more", hold(x, 0, CALL, 0, 20, 4000000), 4000013);
        is("four times 10737418 more", hold(x, 0, CALL, 0, 21, 4000000), 4000000);
        is("SCAN 214748364", hold(x, 0, CALL, 0, 22, 2737418), 2737418);
        is("SCAN", x.risk(0, 0), 214748364);
        is("SCAN 214748368", x.trade(0, CALL, 0, 22, 1), OVER);
        is("SCANS", x.told(1), 214748364);
        is("SCAN of another GROUND", x.trade(1, FUTURE, 0, 0, MILLION), MILLION);
        is("SCANS", x.told(1), 218748364);
    }

    /** PER is 0 if DELTA is 0; what is told of 10 times SCAN has no such if. */
    private static void tenTimesScanWithoutDelta() {
        edge.part("OVER: 10 times SCAN of a GROUND that has no DELTA");
        LegHedge x = new LegHedge();
        x.ground(0, 1, 0);
        x.ground(0, 3, 99);
        is("980 up", x.move(99, 0, 100), 0);
        is("price by it", x.moved(0, 0, 0), 1080);
        for (int e = 0; e < 6; e++) {
            is("100 each are lost", x.trade(0, CALL, e, 980, -214748), -214748);
        }
        for (int e = 0; e < 4; e++) {
            is("101 each are lost", x.trade(0, CALL, e, 979, -212622), -212622);
        }
        is("81 each are lost", x.trade(0, CALL, 0, 999, -3), -3);
        is("SCAN", x.risk(0, 0), 214748331);
        is("DELTA", x.risk(0, 4), 0);
        is("PER is 0", x.risk(0, 3), 0);
        is("10 times SCAN is 2147484120", x.trade(0, CALL, 0, 999, -1), OVER);
        is("would", x.would(0, CALL, 0, 999, -1), NO);
        is("half of it on another GROUND", x.trade(1, FUTURE, 0, 0, -1), -1);
        is("QUANTITY as it was", x.legOf(10, 4), -3);
        is("SCAN", x.risk(0, 0), 214748331);
        is("with a DELTA, too", x.trade(0, FUTURE, 0, 0, -1), OVER);
        is("33 more", x.trade(0, CALL, 0, 998, -1), OVER);
        is("less of it, and PER", x.trade(0, CALL, 0, 999, 3), 0);
        is("SCAN", x.risk(0, 0), 214748088);
        is("PER is 0", x.risk(0, 3), 0);
    }

    private static void rowsAndScansBeyondTenfold() {
        edge.part("OVER: ROWS below 0 may be more than a tenth of an int");
        LegHedge x = deepCalls();
        is("ROW -429496730", x.move(10, 0, 100), 0);
        is("row", x.row(0, 0), -429496730);
        is("SCAN", x.risk(0, 0), 0);
        is("WORST", x.told(4), 0);
        is("MARGIN", x.told(0), 0);
    }

    private static void shortTimesFloor() {
        edge.part("OVER: SHORT times FLOOR");
        LegHedge x = new LegHedge();
        is("2^26 short", hold(x, 0, BOTH, 0, 100, -(1 << 26)), -(1 << 26));
        is("2^32, wraps to 0", x.ground(0, 5, 64), OVER);
        is("2^31", x.ground(0, 5, 32), OVER);
        is("FLOOR as it was", x.groundOf(0, 5), 1);
        is("31 times 2^26", x.ground(0, 5, 31), 1);
        is("FLOORS", x.told(3), 31L << 26);
        is("MARGIN", x.told(0), 31L << 26);
        is("one more SHORT", x.trade(0, BOTH, 0, 100, -1), -(1 << 26) - 1);
        is("69273666 in all", hold(x, 0, PUT, 0, 90, -2164801), -2164801);
        is("FLOORS", x.told(3), 31L * 69273666);
        is("one more SHORT", x.trade(0, PUT, 0, 90, -1), OVER);
        is("as many long ones", x.trade(0, PUT, 0, 91, 1000), 1000);
        is("a FUTURE short", x.trade(0, FUTURE, 0, 0, -1000), -1000);
        is("FLOORS", x.told(3), 2147483646);
    }

    private static void floorsTogether() {
        edge.part("OVER: FLOORS of all GROUNDS together");
        LegHedge x = new LegHedge();
        for (int g = 0; g < 2; g++) {
            x.ground(g, 5, 99);
            hold(x, g, BOTH, 0, 100, -10845877);
        }
        is("FLOORS 2 * 99 * 10845877", x.told(3), 2147483646);
        is("and 1", x.trade(4, CALL, 0, 100, -1), -1);
        is("FLOORS", x.told(3), HIGH);
        is("MARGIN", x.told(0), HIGH);
        is("and another 1", x.trade(4, CALL, 0, 100, -1), OVER);
        is("and another 1", x.trade(3, PUT, 0, 100, -1), OVER);
        is("and another 1", x.ground(4, 5, 2), OVER);
        is("none", x.ground(3, 5, 0), 1);
        is("none", x.trade(3, PUT, 0, 100, -1), -1);
        is("one", x.ground(3, 5, 1), OVER);
        is("MARGIN", x.told(0), HIGH);
    }

    private static void mTimesSpread() {
        edge.part("OVER: m times SPREAD");
        LegHedge x = new LegHedge();
        for (int e = 0; e < 2; e++) {
            int sign = e == 0 ? 1 : -1;
            hold(x, 0, FUTURE, e, 0, sign * 6710886);
            x.trade(0, CALL, e, 100, sign);
        }
        is("m is 67108865", x.told(2), 67108865L * 2 / 10);
        is("times 64 wraps to 64", x.ground(0, 4, 64), OVER);
        is("times 32", x.ground(0, 4, 32), OVER);
        is("times 31", x.ground(0, 4, 31), 2);
        is("CHARGES", x.told(2), 67108865L * 31 / 10);
        // 31 times 69273665 is 2147483615
        is("31 times 69273665", hold(x, 0, FUTURE, 0, 0, 216480), 6927366);
        is("31 times 69273665", hold(x, 0, FUTURE, 1, 0, -216480), -6927366);
        is("CHARGES", x.told(2), 214748361);
        is("one side alone", x.trade(0, CALL, 0, 100, 1), 2);
        is("31 times 69273670", x.trade(0, CALL, 1, 100, -1), OVER);
        is("unlike EXPIRIES alone", x.trade(0, CALL, 0, 100, -1), 1);
    }

    private static void thatTimesTheGap() {
        edge.part("OVER: that times f less e");
        LegHedge x = new LegHedge();
        x.ground(0, 4, 0);
        for (int e = 0; e < 6; e += 5) {
            int sign = e == 0 ? -1 : 1;
            hold(x, 0, FUTURE, e, 0, sign * 21474836);
            x.trade(0, CALL, e, 100, sign);
        }
        is("DELTA by EXPIRY 5", x.risk(0, 10), 214748365);
        is("times 4 times 5 wraps to 4", x.ground(0, 4, 4), OVER);
        is("times 2 times 5", x.ground(0, 4, 2), OVER);
        is("times 1 times 5", x.ground(0, 4, 1), 0);
        is("CHARGES", x.told(2), 214748365L / 2);
        is("2 times 5 times 214748360", x.trade(0, CALL, 0, 100, 1), 0);
        is("2 times 5 times 214748360", x.ground(0, 4, 2), 1);
        is("CHARGES", x.told(2), 214748360);
        is("2 times 5 times 214748365", x.trade(0, CALL, 0, 100, -1), OVER);
        is("2 times 5 times 214748360", x.trade(0, CALL, 1, 100, -1), -1);
        is("CHARGES, 1 and 5 ahead of 0 and 5", x.told(2), 5 * 2 * 4 / 10 + 214748360);
    }

    /** Three charges of 214748325 on each of three GROUNDS, one on a fourth. */
    private static LegHedge tenCharges() {
        LegHedge x = new LegHedge();
        for (int g = 0; g < 5; g++) {
            x.ground(g, 4, 99);
        }
        for (int pair = 0; pair < 10; pair++) {
            int e = pair % 3 * 2;
            hold(x, pair / 3, FUTURE, e, 0, 2169175);
            hold(x, pair / 3, FUTURE, e + 1, 0, -2169175);
        }
        return x;
    }

    private static void chargesTogether() {
        edge.part("OVER: CHARGES of all GROUNDS together");
        LegHedge x = tenCharges();
        is("CHARGES", x.told(2), 2147483250);
        is("CHARGES and 396", x.trade(4, FUTURE, 0, 0, 4), 4);
        is("CHARGES and 396", x.trade(4, FUTURE, 1, 0, -4), -4);
        is("CHARGES", x.told(2), 2147483646);
        is("MARGIN", x.told(0), 2147483646);
        is("one side alone", x.trade(4, FUTURE, 0, 0, 1), 5);
        is("CHARGES and 495", x.trade(4, FUTURE, 1, 0, -1), OVER);
        is("told(0)", x.told(0), 2147483646);
    }

    private static void scansAndCharges() {
        edge.part("OVER: SCANS and CHARGES together");
        LegHedge x = tenCharges();
        x.ground(0, 3, 0);
        x.ground(1, 3, 0);
        x.ground(2, 3, 0);
        x.ground(3, 3, 0);
        is("move", x.move(1, 0, 100), 0);
        is("SCANS and CHARGES are 2147483647", x.trade(4, FUTURE, 0, 0, -397), -397);
        is("SCANS and CHARGES", x.told(1) + x.told(2), HIGH);
        is("MARGIN", x.told(0), HIGH);
        is("one more", x.trade(4, FUTURE, 0, 0, -1), OVER);
        is("one more by a MOVE", x.move(-1, 0, 100), 1);
        is("twice as much by a MOVE", x.move(2, 0, 100), OVER);
        // CREDITS make it no less
        x.trade(3, FUTURE, 2, 0, MILLION);
        is("offset", x.offset(3, 4, 1, 1, 0, 100), 0);
        is("CREDITS", x.told(5) > 0 ? 1 : 0, 1);
        is("MARGIN", x.told(0), HIGH - x.told(5));
        is("one more", x.trade(4, FUTURE, 0, 0, -1), OVER);
    }

    private static void creditTimesRate() {
        edge.part("OVER: k times PARTS times PER together times RATE");
        LegHedge x = new LegHedge();
        x.move(10, 0, 100);
        x.move(-10, 0, 100);
        hold(x, 0, FUTURE, 0, 0, 2147483);
        hold(x, 1, FUTURE, 0, 0, -2147483);
        is("SCANS", x.told(1), 2 * 21474830);
        is("42949660 times 100 wraps to -1296", x.offset(0, 1, 1, 1, 0, 100), OVER);
        is("42949660 times 51", x.offset(0, 1, 1, 1, 0, 51), OVER);
        is("told(8)", x.told(8), 0);
        is("42949660 times 50", x.offset(0, 1, 1, 1, 0, 50), 0);
        is("CREDIT", x.used(0, 1), 21474830);
        is("like signs", x.offset(0, 1, 1, 1, 1, 100), 1);
        is("k of a ninth", x.offset(0, 1, 9, 9, 0, 50), 2);
        // 90 times 238609 are 21474810 of 21474830
        is("k of a ninth, and 2 of what is left", x.ordered(4), 238609L * 180 * 50 / 100 + 20);
        is("MARGIN", x.told(0), 21474830);
    }

    private static void creditInAnotherOrder() {
        edge.part("OVER: CREDITS of all orders count");
        LegHedge x = new LegHedge();
        x.move(10, 0, 100);
        x.move(-10, 0, 100);
        hold(x, 0, FUTURE, 0, 0, 1100000);
        hold(x, 1, FUTURE, 0, 0, -1100000);
        is("offset", x.offset(0, 1, 1, 1, 0, 97), 0);
        is("one that is OVER only if it is the first", x.offset(1, 0, 1, 1, 0, 98), OVER);
        is("one that is OVER by no order", x.offset(1, 0, 1, 1, 0, 97), 1);
        is("told(5)", x.told(5), 21340000);
        LegHedge y = new LegHedge();
        y.move(10, 0, 100);
        y.move(-10, 0, 100);
        hold(y, 0, FUTURE, 0, 0, 1100000);
        hold(y, 1, FUTURE, 0, 0, -1100000);
        hold(y, 2, FUTURE, 0, 0, -1000000);
        is("offset", y.offset(0, 2, 1, 1, 0, 100), 0);
        // behind the other one k is 100000; ahead of it 1100000
        is("OVER in the order that is worth less", y.offset(0, 1, 1, 1, 0, 98), OVER);
        is("not OVER", y.offset(0, 1, 1, 1, 0, 90), 1);
        is("THE ORDER", y.order(0), 0);
        is("CREDITS", y.told(5), 20000000 + 1800000);
        is("CREDITS of the other", y.ordered(1), 19800000);
    }

    /** A GROUND with a DELTA of -5 and much SCAN: PER 250000000. */
    private static LegHedge muchPer() {
        LegHedge x = new LegHedge();
        x.move(10, 0, 100);
        x.move(-10, 0, 100);
        x.ground(0, 2, MILLION);
        for (int e = 0; e < 6; e++) {
            x.trade(0, BOTH, e, 100, -4);
        }
        x.trade(0, CALL, 0, 100, -1);
        x.trade(1, FUTURE, 0, 0, 1);
        return x;
    }

    private static void partsTimesPer() {
        edge.part("OVER: PARTS times PER");
        LegHedge x = muchPer();
        is("SCAN", x.risk(0, 0), 125000000);
        is("PER", x.risk(0, 3), 250000000);
        is("PER of 1", x.risk(1, 3), 10);
        is("9 times PER of a", x.offset(0, 1, 9, 1, 0, 0), OVER);
        is("9 times PER of b", x.offset(1, 0, 1, 9, 0, 0), OVER);
        is("told(8)", x.told(8), 0);
        is("8 times PER of a", x.offset(0, 1, 8, 9, 0, 100), 0);
        is("8 times PER of b", x.offset(1, 0, 9, 8, 0, 100), 1);
        is("9 times PER by a trade that turns the sign", x.trade(1, FUTURE, 0, 0, -2), -1);
        is("like signs", x.offset(0, 1, 9, 1, 0, 0), 2);
        is("back", x.trade(1, FUTURE, 0, 0, 2), OVER);
        is("DELTA 0 is of no sign", x.trade(1, FUTURE, 0, 0, 1), 0);
        is("unset", x.unset(2), 2);
        is("back", x.trade(1, FUTURE, 0, 0, 1), 1);
    }

    private static void partsTimesPerTogether() {
        edge.part("OVER: PARTS times PER of a and of b together");
        LegHedge x = muchPer();
        x.ground(1, 2, MILLION);
        for (int e = 1; e < 5; e++) {
            x.trade(1, BOTH, e, 100, -4);
        }
        is("PER of 1", x.risk(1, 3), 90000000);
        is("2000000000 and 90000000", x.offset(0, 1, 8, 1, 0, 100), 0);
        is("2000000000 and 180000000", x.offset(0, 1, 8, 2, 0, 0), OVER);
        is("180000000 and 2000000000", x.offset(1, 0, 2, 8, 0, 0), OVER);
        is("1750000000 and 360000000", x.offset(0, 1, 7, 4, 0, 100), 1);
        is("1750000000 and 450000000", x.offset(0, 1, 7, 5, 0, 100), OVER);
    }

    private static void everyCallThatCanBeOver() {
        edge.part("OVER: what is refused so changes nothing; what is only asked, too");
        edge.same("ground", EdgeOverTest::nearly, OVER, x -> x.ground(0, 2, MILLION));
        edge.same("move", EdgeOverTest::nearly, OVER, x -> x.move(-99, 0, 100));
        edge.same("offset", EdgeOverTest::nearly, OVER, x -> x.offset(0, 1, 1, 1, 0, 100));
        edge.same("trade", EdgeOverTest::nearly, OVER, x -> x.trade(0, FUTURE, 0, 0, MILLION));
        edge.same("trade of a new LEG", EdgeOverTest::nearly, OVER, x -> x.trade(2, FUTURE, 0, 0, MILLION));
        edge.same("would", EdgeOverTest::nearly, NO, x -> x.would(0, FUTURE, 0, 0, MILLION));
        edge.same("fits", EdgeOverTest::nearly, 0, x -> x.fits(0));
        edge.same("ends", EdgeOverTest::nearly, NO, x -> x.ends());
        LegHedge x = nearly();
        is("clauses that are OVER aren't done", Look.read(x, "m.-99.0.100;o01110.100;t100.0.1"), 1);
        is("told(7)", x.told(7), 2);
        is("told(8)", x.told(8), 0);
        is("QUANTITY", x.legOf(1, 4), -1199999);
    }

    private static LegHedge nearly() {
        LegHedge x = new LegHedge();
        x.move(10, 0, 100);
        x.move(-10, 9, 100);
        hold(x, 0, FUTURE, 0, 0, 1200000);
        hold(x, 1, FUTURE, 0, 0, -1200000);
        x.ground(2, 2, 100);
        x.image();
        x.see(300, 5);
        x.see(200, 5);
        x.ground(3, 2, MILLION);
        x.ground(3, 0, 1);
        x.ground(3, 3, 0);
        x.trade(3, PUT, 5, 999, 1000);
        x.plan(0, 900);
        x.plan(1, 79);
        return x;
    }
}
