/** Promises 16 to 23 at their edges: SCANS, CHARGES, THE ORDER, MARGIN, WOULD, HEDGE, SHARE. */
public final class EdgeMarginTest {
    private static final int LOW = Edge.LOW, HIGH = Edge.HIGH, NONE = Edge.NONE;
    private static final long NO = Edge.NO;
    private static final int FUTURE = 0, CALL = 1, PUT = 2, BOTH = 4;
    private static final int SCAN = 0, CHARGES = 1, SHORT = 2, PER = 3, DELTA = 4;
    private static final Edge edge = new Edge();

    private EdgeMarginTest() {
    }

    public static void main(String[] args) {
        scans();
        chargesOfUnlikeSigns();
        chargesInTheirOrder();
        chargesCut();
        shorts();
        pers();
        risksAndToldRefused();
        floors();
        worst();
        margin();
        sides();
        timesUsed();
        credits();
        orderOfSeveral();
        ordersByNumber();
        ordersRefused();
        woulds();
        hedgesOfAll();
        hedgesAlike();
        hedgesRefused();
        shares();
        edge.end();
    }

    private static void is(String call, long got, long want) {
        edge.is(call, got, want);
    }

    /** MOVES ten up and ten down: SCAN of a FUTURE is ten times its QUANTITY without sign. */
    private static LegHedge upAndDown() {
        LegHedge x = new LegHedge();
        x.move(10, 0, 100);
        x.move(-10, 0, 100);
        return x;
    }

    private static void scans() {
        edge.part("promise 16: SCAN is the greatest of the ROW, 0 at least");
        for (int at = 0; at < 8; at++) {
            LegHedge x = new LegHedge();
            x.trade(3, FUTURE, 0, 0, 1);
            x.trade(2, FUTURE, 0, 0, -1);
            for (int move = 0; move < 8; move++) {
                x.move(move == at ? -9 : 3 + move, 0, 100);
            }
            is("the greatest by MOVE " + at, x.risk(3, SCAN), 9);
            is("the greatest of the other", x.risk(2, SCAN), at == 7 ? 9 : 10);
            is("without LEGS", x.risk(1, SCAN), 0);
            x.still(at);
            is("all below 0", x.risk(3, SCAN), 0);
        }
        LegHedge y = new LegHedge();
        y.trade(0, FUTURE, 0, 0, 1);
        is("without MOVES", y.risk(0, SCAN), 0);
        y.move(0, 9, 100);
        is("all 0", y.risk(0, SCAN), 0);
        y.move(1, 0, 100);
        is("0 and -1", y.risk(0, SCAN), 0);
        y.move(-1, 0, 100);
        is("1", y.risk(0, SCAN), 1);
    }

    /** CHARGES by SPREAD 10 of FUTURES of these QUANTITIES by EXPIRIES: ten tenths of one by one EXPIRY cost 10. */
    private static long charged(int... quantity) {
        LegHedge x = new LegHedge();
        x.ground(1, 4, 10);
        for (int e = 0; e < quantity.length; e++) {
            if (quantity[e] != 0) {
                x.trade(1, FUTURE, e, 0, quantity[e]);
            }
            is("DELTA by EXPIRY " + e, x.risk(1, 5 + e), 10L * quantity[e]);
        }
        is("CHARGES of another", x.risk(0, CHARGES), 0);
        is("CHARGES of all", x.told(2), x.risk(1, CHARGES));
        return x.risk(1, CHARGES);
    }

    private static void chargesOfUnlikeSigns() {
        edge.part("promise 16: CHARGES of DELTAS of unlike signs, the lesser of both");
        is("one EXPIRY", charged(5), 0);
        is("like signs", charged(5, 5), 0);
        is("like signs below 0", charged(-5, -5), 0);
        is("unlike, as much", charged(5, -5), 50);
        is("unlike the other way", charged(-5, 5), 50);
        is("the first is less", charged(3, -5), 30);
        is("the second is less", charged(-5, 3), 30);
        is("one is 0", charged(0, -5), 0);
        is("two apart", charged(1, 0, -1), 20);
        is("three apart", charged(1, 0, 0, -1), 30);
        is("four apart", charged(1, 0, 0, 0, -1), 40);
        is("five apart", charged(-1, 0, 0, 0, 0, 1), 50);
        is("the last two", charged(0, 0, 0, 0, 2, -1), 10);
        is("all six", charged(1, -1, 1, -1, 1, -1), 30);
        is("what is left goes on", charged(1, -3, 0, 1, 1), 10 + 20 + 30);
        is("what is left of one above 0 goes on", charged(-1, 2, 0, -2), 10 + 20);
        is("what is left of one below 0 goes on", charged(1, -2, 0, 2), 10 + 20);
        is("what is left of the first goes on", charged(2, -1, 0, -2), 10 + 30);
        is("what is left of the first goes on", charged(-2, 1, 0, 2), 10 + 30);
        LegHedge x = new LegHedge();
        x.trade(0, FUTURE, 0, 0, 5);
        x.trade(1, FUTURE, 1, 0, -5);
        is("of unlike GROUNDS", x.told(2), 0);
        x.trade(0, PUT, 3, 100, 2);
        is("a PUT's DELTA", x.risk(0, 8), -10);
        is("with a PUT", x.risk(0, CHARGES), 10 * 2 * 3 / 10);
        x.ground(0, 4, 0);
        is("SPREAD 0", x.told(2), 0);
        x.ground(0, 4, 99);
        is("SPREAD 99", x.told(2), 10 * 99 * 3 / 10);
    }

    private static void chargesInTheirOrder() {
        edge.part("promise 16: those of least f - e first, of these those of least e");
        is("1 apart ahead of 2 apart", charged(1, 0, -1, 1), 10);
        is("1 apart ahead of 5 apart", charged(1, 0, 0, 0, -1, 1), 10);
        is("2 apart ahead of 3 apart", charged(1, 0, 0, -1, 0, 1), 20);
        is("3 apart ahead of 4 apart", charged(1, 0, 0, -1, -1), 30);
        is("4 apart ahead of 5 apart", charged(-1, 1, 0, 0, 0, 1), 10);
        // 0 and 1 go, so 2 and 5 are left, not 0 and 5
        is("least e of those 1 apart", charged(1, -1, 1, 0, 0, -1), 10 + 30);
        is("3 apart ahead of 4 apart, what is left", charged(1, 1, 0, 0, -2), 30 + 40);
    }

    private static void chargesCut() {
        edge.part("promise 16: each charge by 10, cut");
        LegHedge x = new LegHedge();
        x.ground(0, 4, 1);
        x.trade(0, CALL, 0, 100, 1);
        x.trade(0, CALL, 1, 100, -1);
        is("5 by 10", x.risk(0, CHARGES), 0);
        x.trade(0, CALL, 2, 100, 1);
        x.trade(0, CALL, 3, 100, -1);
        is("5 by 10 twice", x.risk(0, CHARGES), 0);
        x.ground(0, 4, 3);
        is("15 by 10 twice", x.risk(0, CHARGES), 2);
        x.ground(0, 4, 2);
        is("10 by 10 twice", x.risk(0, CHARGES), 2);
        LegHedge y = new LegHedge();
        y.ground(0, 4, 3);
        y.trade(0, CALL, 0, 100, 1);
        y.trade(0, CALL, 3, 100, -1);
        is("45 by 10: the gap is ahead of the cut", y.risk(0, CHARGES), 4);
    }

    private static void shorts() {
        edge.part("promise 16: SHORT, QUANTITIES below 0 of LEGS that are no FUTURES");
        LegHedge x = new LegHedge();
        is("a FUTURE short", x.trade(2, FUTURE, 0, 0, -9), -9);
        is("SHORT", x.risk(2, SHORT), 0);
        int sum = 0;
        for (int kind = 1; kind < 5; kind++) {
            is("long", x.trade(2, kind, kind, 0, 7), 7);
            is("SHORT", x.risk(2, SHORT), sum);
            is("none", x.trade(2, kind, kind, 0, -7), 0);
            is("SHORT", x.risk(2, SHORT), sum);
            is("one short", x.trade(2, kind, kind, 0, -1), -1);
            sum++;
            is("SHORT of KIND " + kind, x.risk(2, SHORT), sum);
        }
        x.trade(2, CALL, 1, 999, 1000);
        is("long ones beside", x.risk(2, SHORT), 4);
        is("of another", x.risk(1, SHORT), 0);
        is("FLOORS", x.told(3), 4);
    }

    private static void pers() {
        edge.part("promise 16: PER, 10 times SCAN by DELTA without sign, cut; 0 if that is 0");
        LegHedge x = upAndDown();
        x.trade(0, FUTURE, 0, 0, -3);
        is("DELTA below 0", x.risk(0, DELTA), -30);
        is("300 by 30", x.risk(0, PER), 10);
        x.trade(0, CALL, 0, 100, 1);
        // down: 30 less, 10 less 5 more
        is("SCAN", x.risk(0, SCAN), 25);
        is("DELTA", x.risk(0, DELTA), -25);
        is("250 by 25", x.risk(0, PER), 10);
        x.trade(0, CALL, 0, 100, 6);
        is("SCAN", x.risk(0, SCAN), 5);
        is("DELTA", x.risk(0, DELTA), 5);
        is("50 by 5", x.risk(0, PER), 10);
        x.trade(0, CALL, 0, 100, -1);
        is("DELTA 0", x.risk(0, DELTA), 0);
        is("DELTA 0", x.risk(0, PER), 0);
        LegHedge y = new LegHedge();
        y.move(-1, 0, 100);
        y.ground(0, 3, 50);
        y.trade(0, FUTURE, 0, 0, 1);
        y.trade(0, FUTURE, 1, 0, 2);
        is("150 by 30", y.risk(0, PER), 5);
        y.ground(0, 3, 10);
        is("30 by 30", y.risk(0, PER), 1);
        y.still(0);
        y.move(-1, 0, 99);
        // 0.99 and 1.98 are cut to 0 and 1
        is("10 by 30", y.risk(0, PER), 0);
        y.still(0);
        is("SCAN 0", y.risk(0, PER), 0);
    }

    private static void risksAndToldRefused() {
        edge.part("promises 16, 17: NO");
        int[] noGround = {-1, 5, LOW, HIGH};
        for (int g : noGround) {
            edge.refused("risk(" + g + ", 0)", NO, x -> x.risk(g, 0));
            edge.refused("risk(" + g + ", 10)", NO, x -> x.risk(g, 10));
            edge.refused("share(" + g + ", 0)", NO, x -> x.share(g, 0));
            edge.refused("hedge(" + g + ", 0)", NONE, x -> x.hedge(g, 0));
            edge.refused("hedge(" + g + ", 6)", NONE, x -> x.hedge(g, 6));
        }
        int[] noRisk = {-1, 11, LOW, HIGH};
        for (int what : noRisk) {
            edge.refused("risk(0, " + what + ")", NO, x -> x.risk(0, what));
        }
        int[] noTold = {-1, 9, LOW, HIGH};
        for (int what : noTold) {
            edge.refused("told(" + what + ")", NO, x -> x.told(what));
        }
        int[] noExpiry = {-1, 6, LOW, HIGH};
        for (int e : noExpiry) {
            edge.refused("hedge(0, " + e + ")", NONE, x -> x.hedge(0, e));
        }
        edge.refused("risk(0, 5), EXPIRY 0", 100, x -> x.risk(0, 5));
        edge.refused("risk(0, 10), EXPIRY 5", 0, x -> x.risk(0, 10));
        LegHedge y = new LegHedge();
        y.trade(4, FUTURE, 5, 0, 3);
        is("risk(4, 10), EXPIRY 5", y.risk(4, 10), 30);
        is("risk(4, 9), EXPIRY 4", y.risk(4, 9), 0);
    }

    private static void floors() {
        edge.part("promise 17: FLOORS, SHORT times FLOOR of each GROUND");
        LegHedge x = new LegHedge();
        for (int g = 0; g < 5; g++) {
            x.trade(g, BOTH, 0, 100, -(g + 1));
        }
        is("FLOOR 1", x.told(3), 15);
        for (int g = 0; g < 5; g++) {
            x.ground(g, 5, 0);
        }
        is("FLOOR 0", x.told(3), 0);
        x.ground(4, 5, 99);
        is("FLOOR 99", x.told(3), 495);
        x.ground(0, 5, 10);
        is("and 10", x.told(3), 505);
        is("MARGIN", x.told(0), 505);
    }

    private static void worst() {
        edge.part("promise 17: WORST, the greatest by a MOVE of all ROWS together, 0 at least");
        LegHedge x = upAndDown();
        x.trade(0, FUTURE, 0, 0, 5);
        is("up -50, down 50", x.told(4), 50);
        x.trade(1, FUTURE, 0, 0, -4);
        is("up -10, down 10", x.told(4), 10);
        x.trade(2, FUTURE, 0, 0, -1);
        is("0 both", x.told(4), 0);
        x.trade(2, FUTURE, 0, 0, -1);
        is("up 10, down -10", x.told(4), 10);
        x.still(0);
        is("down alone, -10", x.told(4), 0);
        is("SCANS", x.told(1), 50);
        x.still(0);
        is("without MOVES", x.told(4), 0);
    }

    private static void margin() {
        edge.part("promise 17: MARGIN is the greatest of three");
        LegHedge x = upAndDown();
        x.trade(0, FUTURE, 0, 0, 10);
        x.trade(1, FUTURE, 0, 0, 10);
        is("SCANS", x.told(0), 200);
        x.offset(0, 1, 1, 1, 1, 100);
        is("CREDITS", x.told(5), 200);
        is("WORST 200, SCANS less CREDITS 0", x.told(0), 200);
        x.trade(2, FUTURE, 0, 0, -10);
        is("WORST 100, SCANS less CREDITS 100", x.told(0), 100);
        x.trade(2, FUTURE, 0, 0, -1);
        is("WORST 90, SCANS less CREDITS 110", x.told(0), 110);
        x.trade(3, CALL, 0, 999, -1);
        x.ground(3, 5, 99);
        is("FLOORS 99", x.told(0), 110);
        x.trade(3, CALL, 0, 999, -1);
        is("FLOORS 198", x.told(0), 198);
        x.trade(3, CALL, 0, 999, 2);
        x.trade(4, FUTURE, 0, 0, 1);
        x.trade(4, FUTURE, 5, 0, -1);
        is("CHARGES", x.told(2), 10);
        is("and CHARGES", x.told(0), 120);
        is("told(6)", x.told(6), 5);
        is("told(7)", x.told(7), 2);
        is("told(8)", x.told(8), 1);
    }

    private static void sides() {
        edge.part("promise 19: DELTAS that aren't 0 and have such signs");
        for (int a = -1; a <= 1; a++) {
            for (int b = -1; b <= 1; b++) {
                for (int side = 0; side < 2; side++) {
                    LegHedge x = upAndDown();
                    LegHedge y = upAndDown();
                    if (a != 0) {
                        x.trade(0, FUTURE, 0, 0, a * 5);
                        y.trade(4, FUTURE, 0, 0, a * 5);
                    }
                    if (b != 0) {
                        x.trade(4, FUTURE, 0, 0, b * 5);
                        y.trade(0, FUTURE, 0, 0, b * 5);
                    }
                    x.offset(0, 4, 1, 1, side, 100);
                    y.offset(4, 0, 1, 1, side, 100);
                    long want = a * b == (side == 0 ? -1 : 1) ? 5 : 0;
                    is("signs " + a + ", " + b + ", SIDE " + side, x.used(0, 0), want);
                    is("signs " + a + ", " + b + ", SIDE " + side, x.used(0, 1), want * 20);
                    is("the other way", y.used(0, 0), want);
                }
            }
        }
    }

    private static void timesUsed() {
        edge.part("promise 19: k, the lesser of both, each cut; LEFT is less of both");
        int[] qa = {8, 9, 17, 18, 99};
        int[] k = {0, 1, 1, 2, 11};
        for (int i = 0; i < qa.length; i++) {
            LegHedge x = upAndDown();
            x.trade(0, FUTURE, 0, 0, qa[i]);
            x.trade(1, FUTURE, 0, 0, -1000);
            x.offset(0, 1, 9, 2, 0, 50);
            x.offset(1, 0, 2, 9, 0, 50);
            is("k of " + qa[i], x.used(0, 0), k[i]);
            is("CREDIT of " + qa[i], x.used(0, 1), k[i] * 55);
            is("nothing is left", x.used(1, 0), 0);
            x.unset(0);
            is("k the other way", x.used(0, 0), k[i]);
        }
        LegHedge y = upAndDown();
        y.trade(0, CALL, 0, 100, 1);
        y.trade(1, FUTURE, 0, 0, -1000);
        y.offset(0, 1, 1, 1, 0, 100);
        is("DELTA 5", y.used(0, 0), 0);
        y.trade(0, CALL, 0, 100, 1);
        is("DELTA 10", y.used(0, 0), 1);
        y.trade(0, CALL, 0, 100, 1);
        is("DELTA 15", y.used(0, 0), 1);
        LegHedge z = upAndDown();
        z.trade(0, FUTURE, 0, 0, 10);
        z.trade(1, FUTURE, 0, 0, -7);
        z.trade(2, FUTURE, 0, 0, -7);
        z.offset(0, 1, 1, 1, 0, 90);
        z.offset(2, 0, 1, 1, 0, 80);
        is("7 of 10", z.used(0, 0), 7);
        is("3 are left of a", z.used(1, 0), 3);
        z.offset(1, 0, 2, 1, 0, 0);
        z.offset(0, 2, 1, 2, 0, 0);
        is("nothing is left of 1", z.used(2, 0), 0);
        is("4 are left of 2, nothing of 0", z.used(3, 0), 0);
    }

    private static void credits() {
        edge.part("promise 19: CREDIT, by 100, cut");
        int[] rate = {0, 4, 5, 9, 10, 95, 99, 100};
        int[] credit = {0, 0, 1, 1, 2, 19, 19, 20};
        for (int i = 0; i < rate.length; i++) {
            LegHedge x = upAndDown();
            x.trade(0, FUTURE, 0, 0, 1);
            x.trade(1, FUTURE, 0, 0, -1);
            x.offset(0, 1, 1, 1, 0, rate[i]);
            is("RATE " + rate[i], x.used(0, 1), credit[i]);
            is("RATE " + rate[i], x.told(5), credit[i]);
            is("RATE " + rate[i], x.told(0), 20 - credit[i]);
            is("RATE " + rate[i], x.used(0, 0), 1);
        }
        LegHedge y = upAndDown();
        y.trade(0, FUTURE, 0, 0, 1);
        y.trade(1, FUTURE, 0, 0, -1);
        y.trade(2, FUTURE, 0, 0, 1);
        y.trade(3, FUTURE, 0, 0, -1);
        y.offset(0, 1, 1, 1, 0, 9);
        y.offset(2, 3, 1, 1, 0, 9);
        is("1.8 and 1.8, each cut", y.told(5), 2);
        y.unset(1);
        y.unset(0);
        y.ground(0, 3, 30);
        y.trade(0, FUTURE, 0, 0, 1);
        y.offset(0, 1, 2, 1, 0, 100);
        is("twice 30 and 10", y.used(0, 1), 70);
        y.unset(0);
        y.offset(1, 0, 1, 2, 0, 100);
        is("10 and twice 30", y.used(0, 1), 70);
    }

    private static void orderOfSeveral() {
        edge.part("promise 18: of several orders that of which the first is least, then the second");
        LegHedge x = upAndDown();
        x.trade(0, FUTURE, 0, 0, 10);
        x.trade(1, FUTURE, 0, 0, -10);
        x.trade(2, FUTURE, 0, 0, -10);
        for (int o = 0; o < 6; o++) {
            x.offset(0, 1, 1, 1, 1, 50);
            for (int k = 0; k <= o; k++) {
                is("all are worth nothing", x.order(k), k);
            }
            is("no such k", x.order(o + 1), NONE);
        }
        for (int o = 5; o >= 0; o--) {
            x.unset(o);
        }
        for (int o = 0; o < 6; o++) {
            x.offset(0, 1 + o % 2, 1, 1, 0, 50);
        }
        for (int k = 0; k < 6; k++) {
            is("all are worth the same", x.order(k), k);
        }
        is("the first takes all", x.used(0, 1), 100);
        x.unset(3);
        x.offset(0, 2, 1, 1, 0, 51);
        int[] last = {5, 0, 1, 2, 3, 4};
        for (int k = 0; k < 6; k++) {
            is("the last is worth most", x.order(k), last[k]);
        }
        x.unset(2);
        x.offset(0, 1, 1, 1, 0, 51);
        int[] first = {4, 0, 1, 2, 3, 5};
        for (int k = 0; k < 6; k++) {
            is("the first of two that are worth most", x.order(k), first[k]);
        }
    }

    /** 24, 30, 23 long on 0, 1, 2; three OFFSETS that want the same; each order is worth something else. */
    private static LegHedge sixOrders() {
        LegHedge x = upAndDown();
        x.trade(0, FUTURE, 0, 0, 24);
        x.trade(1, FUTURE, 0, 0, 30);
        x.trade(2, FUTURE, 0, 0, 23);
        x.offset(2, 1, 3, 3, 1, 100);
        x.offset(0, 1, 9, 5, 1, 70);
        x.offset(1, 0, 8, 1, 1, 20);
        return x;
    }

    private static void ordersByNumber() {
        edge.part("promise 20: all orders, the least first");
        LegHedge x = sixOrders();
        // 0 1 2: 7 * 60, 1 * 98; 0 2 1: 7 * 60, 1 * 18; 1 0 2: 2 * 98, 6 * 60;
        // 1 2 0: 2 * 98, 2 * 18, 1 * 60; 2 0 1: 3 * 18, 2 * 60; 2 1 0: 3 * 18, 1 * 98
        long[] want = {518, 438, 556, 292, 174, 152};
        for (int number = 0; number < 6; number++) {
            is("ordered(" + number + ")", x.ordered(number), want[number]);
        }
        int[] order = {1, 0, 2};
        int[] k = {6, 2, 0};
        int[] credit = {360, 196, 0};
        for (int o = 0; o < 3; o++) {
            is("order(" + o + ")", x.order(o), order[o]);
            is("used(" + o + ", 0)", x.used(o, 0), k[o]);
            is("used(" + o + ", 1)", x.used(o, 1), credit[o]);
        }
        is("CREDITS", x.told(5), 556);
        is("SCANS", x.told(1), 770);
        is("WORST", x.told(4), 770);
        is("MARGIN", x.told(0), 770);
        int[] many = {1, 1, 2, 6, 24, 120, 720};
        LegHedge y = upAndDown();
        for (int o = 0; o <= 6; o++) {
            is("the last of " + o, y.ordered(many[o] - 1), 0);
            is("behind the last of " + o, y.ordered(many[o]), NO);
            is("below the first of " + o, y.ordered(-1), NO);
            is("HIGH", y.ordered(HIGH), NO);
            is("LOW", y.ordered(LOW), NO);
            y.offset(0, 1, 1, 1, 0, 1);
        }
    }

    private static void ordersRefused() {
        edge.part("promises 18, 19, 20: NONE, NO");
        int[] none = {-1, 2, 6, LOW, HIGH};
        for (int n : none) {
            edge.refused("order(" + n + ")", NONE, x -> x.order(n));
            edge.refused("used(" + n + ", 0)", NONE, x -> x.used(n, 0));
            edge.refused("ordered(" + n + ")", NO, x -> x.ordered(n));
        }
        int[] noWhat = {-1, 2, LOW, HIGH};
        for (int what : noWhat) {
            edge.refused("used(0, " + what + ")", NONE, x -> x.used(0, what));
        }
        is("without OFFSETS one order, of none", new LegHedge().ordered(0), 0);
        is("without OFFSETS no other", new LegHedge().ordered(1), NO);
        edge.refused("ordered(0)", Look.rich().told(5), x -> x.ordered(0));
        LegHedge x = sixOrders();
        is("ordered(5)", x.ordered(5), 152);
        is("THE ORDER is as it was", x.used(0, 0), 6);
        is("THE ORDER is as it was", x.told(5), 556);
        is("THE ORDER is as it was", x.order(0), 1);
    }

    private static void woulds() {
        edge.part("promise 21: MARGIN behind a TRADE");
        int[][] trades = {{0, FUTURE, 0, 0, 1}, {0, FUTURE, 0, 0, -10}, {0, FUTURE, 5, 0, -10},
            {1, CALL, 1, 105, 3}, {4, PUT, 5, 999, -1000}, {3, BOTH, 2, 0, 1000}, {2, BOTH, 0, 88, 1}};
        for (int[] t : trades) {
            LegHedge y = Look.rich();
            y.trade(t[0], t[1], t[2], t[3], t[4]);
            edge.refused("would", y.told(0), x -> x.would(t[0], t[1], t[2], t[3], t[4]));
        }
    }

    private static void hedgesOfAll() {
        edge.part("promise 22: q -20 .. 20");
        for (int q = -22; q <= 22; q++) {
            LegHedge x = upAndDown();
            if (q != 0) {
                x.trade(2, FUTURE, 3, 0, q);
            }
            is("against " + q, x.hedge(2, 3), Math.max(-20, Math.min(20, -q)));
        }
        for (int e = 0; e < 6; e++) {
            LegHedge x = upAndDown();
            x.trade(4, FUTURE, e, 0, 5);
            x.trade(4, PUT, e, 200, 1);
            is("against a PUT, too", x.hedge(4, e), -4);
            // in another EXPIRY it costs 2 by each EXPIRY between, up to 10
            is("EXPIRY 0", x.hedge(4, 0), e == 5 ? 0 : -4);
            is("EXPIRY 5", x.hedge(4, 5), e == 0 ? 0 : -4);
        }
        edge.refused("hedge()", Look.rich().hedge(1, 1), x -> x.hedge(1, 1));
    }

    private static void hedgesAlike() {
        edge.part("promise 22: of several the least without sign, of these that below 0");
        LegHedge x = upAndDown();
        x.trade(0, FUTURE, 0, 0, 15);
        x.trade(3, CALL, 0, 999, -1);
        x.ground(3, 5, 99);
        is("FLOORS 99 by -6 to -20", x.would(0, FUTURE, 0, 0, -6), 99);
        is("FLOORS 99 by -6 to -20", x.would(0, FUTURE, 0, 0, -20), 99);
        is("100 by -5", x.would(0, FUTURE, 0, 0, -5), 100);
        is("the least without sign", x.hedge(0, 0), -6);
        x.trade(0, FUTURE, 0, 0, -30);
        is("the least without sign", x.hedge(0, 0), 6);
        LegHedge y = upAndDown();
        y.trade(1, FUTURE, 0, 0, 3);
        y.trade(2, FUTURE, 0, 0, -3);
        y.offset(0, 1, 1, 1, 0, 100);
        y.offset(0, 2, 1, 1, 0, 100);
        is("60", y.told(0), 60);
        is("30 by -3", y.would(0, FUTURE, 0, 0, -3), 30);
        is("30 by 3", y.would(0, FUTURE, 0, 0, 3), 30);
        is("that below 0", y.hedge(0, 0), -3);
        LegHedge z = new LegHedge();
        z.trade(0, CALL, 0, 100, -5);
        is("without MOVES all are alike", z.hedge(0, 0), 0);
        is("none is as good as any", z.hedge(4, 5), 0);
    }

    private static void hedgesRefused() {
        edge.part("promise 22: those that would be refused aren't looked at");
        LegHedge x = upAndDown();
        for (int i = 0; i < 24; i++) {
            x.trade(0, CALL, 0, i, 1);
        }
        is("a 25th LEG", x.hedge(0, 0), 0);
        is("would", x.would(0, FUTURE, 0, 0, -10), NO);
        x.trade(0, CALL, 0, 0, -1);
        is("a 24th LEG", x.hedge(0, 0), -20);
        x.trade(0, FUTURE, 0, 0, 1);
        is("one of the 24", x.hedge(0, 0), -20);
        // three of one LEG would be 3 times 1000000 times 10 times 100
        LegHedge y = upAndDown();
        y.ground(0, 2, 1000000);
        y.ground(0, 4, 0);
        y.trade(0, FUTURE, 1, 0, 2);
        y.trade(0, FUTURE, 2, 0, 2);
        y.trade(0, FUTURE, 3, 0, 1);
        is("five of three LEGS", y.told(0), 50000000);
        is("would -3", y.would(0, FUTURE, 0, 0, -3), NO);
        is("-5 would be best, -2 is refused by none", y.hedge(0, 0), -2);
        is("-2 of its LEG", y.hedge(0, 1), -4);
        is("-2 of its LEG", y.hedge(0, 3), -3);
        is("all of them long already", y.trade(0, FUTURE, 0, 0, 2), 2);
        is("told(0)", y.told(0), 70000000);
        is("-2 of its LEG", y.hedge(0, 0), -4);
    }

    private static void shares() {
        edge.part("promise 23: a fraction in lowest terms; NO");
        int[][] quantities = {{6, 4}, {4, 6}, {5, 7}, {12, 36}, {1, 0}, {0, 1}, {7, 7}, {1000000, 1}, {14, 21}};
        long[][] want = {{3, 5}, {2, 5}, {5, 12}, {1, 4}, {1, 1}, {0, 1}, {1, 2}, {1000000, 1000001}, {2, 5}};
        for (int i = 0; i < quantities.length; i++) {
            LegHedge x = upAndDown();
            for (int g = 0; g < 2; g++) {
                if (quantities[i][g] != 0) {
                    x.trade(g, FUTURE, 0, 0, quantities[i][g]);
                }
            }
            is("above the line", x.share(0, 0), want[i][0]);
            is("below the line", x.share(0, 1), want[i][1]);
            is("of none", x.share(4, 0), 0);
            is("of none", x.share(4, 1), 1);
        }
        int[] noPart = {-1, 2, LOW, HIGH};
        for (int part : noPart) {
            edge.refused("share(0, " + part + ")", NO, x -> x.share(0, part));
        }
        LegHedge x = new LegHedge();
        x.trade(0, FUTURE, 0, 0, 10);
        is("SCANS are 0 without a MOVE", x.share(0, 0), NO);
        is("SCANS are 0 without a MOVE", x.share(0, 1), NO);
        x.move(10, 0, 100);
        is("SCANS are 0", x.share(0, 0), NO);
        x.move(-1, 0, 100);
        is("SCANS are 10", x.share(0, 0), 1);
        is("SCANS are 10", x.share(1, 0), 0);
        x.trade(1, FUTURE, 0, 0, 3);
        is("10 of 13", x.share(0, 0), 10);
        is("10 of 13", x.share(0, 1), 13);
        x.trade(0, FUTURE, 0, 0, -10);
        x.trade(1, FUTURE, 0, 0, -2);
        is("1 of 1", x.share(1, 0), 1);
        is("1 of 1", x.share(1, 1), 1);
        is("0 of 1", x.share(0, 0), 0);
        is("0 of 1", x.share(0, 1), 1);
        is("of a ground that there isn't", x.share(5, 0), NO);
    }
}
