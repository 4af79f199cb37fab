/** Each promise by numbers that were reckoned by hand: ordinary ones, edges, wrong ones. */
public final class PromiseTest {
    private static final long NO = Long.MIN_VALUE;
    private static final int LOW = Integer.MIN_VALUE, HIGH = Integer.MAX_VALUE;
    private static final Due due = new Due();

    private PromiseTest() {
    }

    private static void is(String call, long got, long want) {
        due.is(call, got, want);
    }

    public static void main(String[] args) {
        aNewObject();
        grounds();
        moves();
        movedGrounds();
        offsets();
        trades();
        finds();
        legs();
        values();
        takens();
        losses();
        overLosses();
        scansAndCharges();
        shortsAndFloors();
        orders();
        partsAndSides();
        overCredits();
        overSums();
        overDeltas();
        overLegDeltas();
        overParts();
        overChargesTogether();
        woulds();
        hedges();
        shares();
        seen();
        plans();
        feeds();
        reads();
        faults();
        judges();
        images();
        counts();
        tapes();
        shifts();
        due.end();
    }

    /** Ground 0: ten futures long; 1, 2: ten each short; moves ten up, ten down. */
    private static LegHedge threeGrounds() {
        LegHedge x = new LegHedge();
        x.move(10, 0, 100);
        x.move(-10, 0, 100);
        x.trade(0, 0, 0, 0, 10);
        x.trade(1, 0, 0, 0, -10);
        x.trade(2, 0, 0, 0, -10);
        return x;
    }

    private static int feedAll(LegHedge x, String text) {
        int last = 0;
        for (int i = 0; i < text.length(); i++) {
            last = x.feed(text.charAt(i));
        }
        return last;
    }

    private static int readAll(LegHedge x, String text) {
        feedAll(x, text);
        return x.read();
    }

    private static void aNewObject() {
        due.part("promise 1");
        LegHedge x = new LegHedge();
        for (int what = 0; what <= 8; what++) {
            is("told(" + what + ")", x.told(what), 0);
        }
        for (int what = 0; what <= 6; what++) {
            is("count(" + what + ")", x.count(what), 0);
        }
        int[] first = {100, 20, 1, 10, 2, 1};
        for (int g = 0; g < 5; g++) {
            for (int what = 0; what < 6; what++) {
                is("groundOf(" + g + ", " + what + ")", x.groundOf(g, what), first[what]);
            }
        }
        for (int tape = 0; tape < 6; tape++) {
            is("item(" + tape + ", 0, 1)", x.item(tape, 0, 1), -11);
        }
        is("undo()", x.undo(), -3);
        is("read()", x.read(), -10);
        is("value(0, -1)", x.value(0, -1), -1);
    }

    private static void grounds() {
        due.part("promises 2, 3");
        int[] least = {1, 0, 1, 0, 0, 0};
        int[] most = {999, 99, 1000000, 99, 99, 99};
        int[] first = {100, 20, 1, 10, 2, 1};
        LegHedge x = new LegHedge();
        for (int g = 0; g < 5; g++) {
            for (int what = 0; what < 6; what++) {
                is("least", x.ground(g, what, least[what]), first[what]);
                is("most", x.ground(g, what, most[what]), least[what]);
                is("groundOf", x.groundOf(g, what), most[what]);
                is("below", x.ground(g, what, least[what] - 1), -2);
                is("above", x.ground(g, what, most[what] + 1), -2);
                is("lowest", x.ground(g, what, LOW), -2);
                is("highest", x.ground(g, what, HIGH), -2);
                is("groundOf", x.groundOf(g, what), most[what]);
            }
        }
        int[] wrong = {-1, 5, LOW, HIGH};
        for (int g : wrong) {
            is("ground(" + g + ", 0, 1)", x.ground(g, 0, 1), -1);
            is("ground(" + g + ", 0, 0)", x.ground(g, 0, 0), -1);
            is("groundOf(" + g + ", 0)", x.groundOf(g, 0), -1);
        }
        int[] wrongWhat = {-1, 6, LOW, HIGH};
        for (int what : wrongWhat) {
            is("ground(0, " + what + ", 1)", x.ground(0, what, 1), -1);
            is("groundOf(0, " + what + ")", x.groundOf(0, what), -1);
        }
        LegHedge y = new LegHedge();
        y.move(10, 0, 100);
        y.trade(0, 0, 0, 0, 3);
        is("ground(0, 2, 1000000)", y.ground(0, 2, 1000000), -15);
        is("groundOf(0, 2)", y.groundOf(0, 2), 1);
        is("loss(0, 0)", y.loss(0, 0), -30);
        // 3 times SIZE times 10 times 100 is an int's up to 715827
        is("ground(0, 2, 715828)", y.ground(0, 2, 715828), -15);
        is("ground(0, 2, 715827)", y.ground(0, 2, 715827), 1);
        is("groundOf(0, 2)", y.groundOf(0, 2), 715827);
        is("ground(0, 3, 99)", y.ground(0, 3, 99), -15);
        is("groundOf(0, 3)", y.groundOf(0, 3), 10);
        is("ground(0, 3, 9)", y.ground(0, 3, 9), 10);
    }

    private static void moves() {
        due.part("promises 4, 5");
        LegHedge x = new LegHedge();
        is("move(100, 0, 1)", x.move(100, 0, 1), -2);
        is("move(-100, 0, 1)", x.move(-100, 0, 1), -2);
        is("move(0, 10, 1)", x.move(0, 10, 1), -2);
        is("move(0, -10, 1)", x.move(0, -10, 1), -2);
        is("move(0, 0, 0)", x.move(0, 0, 0), -2);
        is("move(0, 0, 101)", x.move(0, 0, 101), -2);
        is("move(LOW, HIGH, LOW)", x.move(LOW, HIGH, LOW), -2);
        is("told(7)", x.told(7), 0);
        is("move(99, 9, 100)", x.move(99, 9, 100), 0);
        is("move(-99, -9, 1)", x.move(-99, -9, 1), 1);
        for (int i = 2; i < 8; i++) {
            is("move(" + i + ", 0, 10)", x.move(i, 0, 10), i);
        }
        is("move(0, 0, 1)", x.move(0, 0, 1), -4);
        is("move(0, 0, 0)", x.move(0, 0, 0), -2);
        is("told(7)", x.told(7), 8);
        is("still(8)", x.still(8), -1);
        is("still(-1)", x.still(-1), -1);
        is("still(HIGH)", x.still(HIGH), -1);
        is("moved(0, 1, 0)", x.moved(0, 1, 0), 1);
        is("moved(0, 2, 0)", x.moved(0, 2, 0), 102);
        is("still(1)", x.still(1), 7);
        is("moved(0, 1, 0)", x.moved(0, 1, 0), 102);
        is("moved(0, 6, 0)", x.moved(0, 6, 0), 107);
        is("moved(0, 7, 0)", x.moved(0, 7, 0), -1);
        is("still(6)", x.still(6), 6);
        is("move(9, 0, 1)", x.move(9, 0, 1), 6);
        LegHedge y = threeGrounds();
        is("row(0, 0)", y.row(0, 0), -100);
        is("still(0)", y.still(0), 1);
        is("row(0, 0)", y.row(0, 0), 100);
        is("risk(1, 0)", y.risk(1, 0), 0);
        is("told(4)", y.told(4), 0);
        LegHedge z = new LegHedge();
        z.trade(0, 0, 0, 0, 1000000);
        z.trade(0, 0, 0, 0, 1000000);
        is("move(10, 0, 100)", z.move(10, 0, 100), 0);
        is("move(11, 0, 100)", z.move(11, 0, 100), -15);
        is("told(7)", z.told(7), 1);
        is("loss(0, 0)", z.loss(0, 0), -20000000);
    }

    private static void movedGrounds() {
        due.part("promise 6");
        LegHedge x = new LegHedge();
        x.ground(0, 3, 3);
        x.move(-7, 0, 1);
        x.move(7, -9, 1);
        x.ground(1, 0, 1);
        x.ground(1, 1, 5);
        x.ground(2, 1, 99);
        x.move(-99, 9, 1);
        is("moved(0, -1, 0)", x.moved(0, -1, 0), 100);
        is("moved(0, -1, 1)", x.moved(0, -1, 1), 20);
        is("moved(0, 0, 0)", x.moved(0, 0, 0), 98);
        is("moved(0, 1, 0)", x.moved(0, 1, 0), 102);
        is("moved(0, 1, 1)", x.moved(0, 1, 1), 11);
        is("moved(1, 1, 1)", x.moved(1, 1, 1), 0);
        is("moved(1, 2, 0)", x.moved(1, 2, 0), 1);
        is("moved(1, 1, 0)", x.moved(1, 1, 0), 8);
        is("moved(2, 2, 1)", x.moved(2, 2, 1), 108);
        is("moved(2, 2, 0)", x.moved(2, 2, 0), 1);
        is("moved(-1, 0, 0)", x.moved(-1, 0, 0), -1);
        is("moved(5, 0, 0)", x.moved(5, 0, 0), -1);
        is("moved(0, 3, 0)", x.moved(0, 3, 0), -1);
        is("moved(0, -2, 0)", x.moved(0, -2, 0), -1);
        is("moved(0, 0, 2)", x.moved(0, 0, 2), -1);
        is("moved(0, 0, -1)", x.moved(0, 0, -1), -1);
    }

    private static void offsets() {
        due.part("promises 7, 8");
        LegHedge x = new LegHedge();
        is("offset(0, 0, ..)", x.offset(0, 0, 1, 1, 0, 0), -1);
        is("offset(-1, 0, ..)", x.offset(-1, 0, 1, 1, 0, 0), -1);
        is("offset(0, 5, ..)", x.offset(0, 5, 1, 1, 0, 0), -1);
        is("offset(3, 3, 0, ..)", x.offset(3, 3, 0, 1, 0, 0), -1);
        is("parts 0", x.offset(0, 1, 0, 1, 0, 0), -2);
        is("parts 10", x.offset(0, 1, 10, 1, 0, 0), -2);
        is("parts 1, 0", x.offset(0, 1, 1, 0, 0, 0), -2);
        is("parts 1, 10", x.offset(0, 1, 1, 10, 0, 0), -2);
        is("side 2", x.offset(0, 1, 1, 1, 2, 0), -2);
        is("side -1", x.offset(0, 1, 1, 1, -1, 0), -2);
        is("rate -1", x.offset(0, 1, 1, 1, 0, -1), -2);
        is("rate 101", x.offset(0, 1, 1, 1, 0, 101), -2);
        is("offset", x.offset(0, 1, 1, 9, 0, 0), 0);
        is("offset", x.offset(0, 1, 9, 1, 1, 100), 1);
        for (int i = 2; i < 6; i++) {
            is("offset", x.offset(4, 0, 1, 1, 0, 50), i);
        }
        is("offset", x.offset(4, 0, 1, 1, 0, 50), -4);
        is("offset", x.offset(4, 0, 1, 1, 0, 101), -2);
        is("offset", x.offset(4, 4, 1, 1, 0, 50), -1);
        is("told(8)", x.told(8), 6);
        is("unset(6)", x.unset(6), -1);
        is("unset(-1)", x.unset(-1), -1);
        is("unset(LOW)", x.unset(LOW), -1);
        is("unset(5)", x.unset(5), 5);
        is("unset(0)", x.unset(0), 4);
        is("told(8)", x.told(8), 4);
        LegHedge y = threeGrounds();
        y.offset(0, 1, 1, 1, 0, 50);
        y.offset(0, 2, 1, 1, 0, 80);
        is("told(5)", y.told(5), 160);
        is("unset(1)", y.unset(1), 1);
        is("told(5)", y.told(5), 100);
        y.offset(0, 2, 1, 1, 0, 80);
        is("unset(0)", y.unset(0), 1);
        is("used(0, 1)", y.used(0, 1), 160);
    }

    private static void trades() {
        due.part("promise 9");
        LegHedge x = new LegHedge();
        is("trade(0, 0, 1, 0, 5)", x.trade(0, 0, 1, 0, 5), 5);
        is("trade(0, 0, 1, 0, -8)", x.trade(0, 0, 1, 0, -8), -3);
        is("trade(0, 1, 1, 999, -1)", x.trade(0, 1, 1, 999, -1), -1);
        is("trade(4, 4, 5, 0, 1000000)", x.trade(4, 4, 5, 0, 1000000), 1000000);
        is("trade(4, 4, 5, 0, 1000000)", x.trade(4, 4, 5, 0, 1000000), 2000000);
        is("trade(0, 0, 1, 0, 3)", x.trade(0, 0, 1, 0, 3), 0);
        is("count(0)", x.count(0), 2);
        is("legOf(0, 3)", x.legOf(0, 3), 999);
        is("legOf(1, 4)", x.legOf(1, 4), 2000000);
        is("legOf(2, 4)", x.legOf(2, 4), NO);
        is("trade(0, 0, 1, 0, 2)", x.trade(0, 0, 1, 0, 2), 2);
        is("legOf(2, 4)", x.legOf(2, 4), 2);
        is("ground -1", x.trade(-1, 0, 0, 0, 1), -1);
        is("ground 5", x.trade(5, 0, 0, 1, 0), -1);
        is("kind -1", x.trade(0, -1, 0, 0, 1), -1);
        is("kind 5", x.trade(0, 5, 0, 0, 1), -1);
        is("expiry -1", x.trade(0, 0, -1, 0, 1), -1);
        is("expiry 6", x.trade(0, 0, 6, 0, 0), -1);
        is("strike -1", x.trade(0, 1, 0, -1, 1), -2);
        is("strike 1000", x.trade(0, 1, 0, 1000, 1), -2);
        is("strike of a future", x.trade(0, 0, 0, 1, 1), -2);
        is("q 0", x.trade(0, 1, 0, 1, 0), -2);
        is("q 1000001", x.trade(0, 1, 0, 1, 1000001), -2);
        is("q -1000001", x.trade(0, 1, 0, 1, -1000001), -2);
        is("q LOW", x.trade(0, 1, 0, 1, LOW), -2);
        is("q -1000000", x.trade(0, 1, 0, 1, -1000000), -1000000);
        is("count(0)", x.count(0), 4);
        for (int i = 0; i < 20; i++) {
            is("trade", x.trade(2, 3, 2, 100 + i, 1), 1);
        }
        is("a 25th", x.trade(2, 3, 2, 120, 1), -4);
        is("a 25th, q 0", x.trade(2, 3, 2, 120, 0), -2);
        is("one of the 24", x.trade(2, 3, 2, 119, 1), 2);
        is("one to 0", x.trade(2, 3, 2, 100, -1), 0);
        is("a 24th", x.trade(2, 3, 2, 120, 1), 1);
        is("find", x.find(2, 3, 2, 120), 23);
    }

    private static void finds() {
        due.part("promise 10");
        LegHedge x = new LegHedge();
        x.trade(0, 0, 1, 0, 5);
        x.trade(0, 1, 1, 100, 5);
        x.trade(0, 2, 1, 100, 5);
        x.trade(1, 1, 1, 100, 5);
        x.trade(0, 1, 2, 100, 5);
        is("find(0, 0, 1, 0)", x.find(0, 0, 1, 0), 0);
        is("find(0, 1, 1, 100)", x.find(0, 1, 1, 100), 1);
        is("find(0, 2, 1, 100)", x.find(0, 2, 1, 100), 2);
        is("find(1, 1, 1, 100)", x.find(1, 1, 1, 100), 3);
        is("find(0, 1, 2, 100)", x.find(0, 1, 2, 100), 4);
        is("find(0, 1, 2, 99)", x.find(0, 1, 2, 99), -5);
        is("find(0, 3, 1, 100)", x.find(0, 3, 1, 100), -5);
        is("find(-1, 0, 1, 5)", x.find(-1, 0, 1, 5), -1);
        is("find(5, 0, 1, 0)", x.find(5, 0, 1, 0), -1);
        is("find(0, 5, 1, 0)", x.find(0, 5, 1, 0), -1);
        is("find(0, -1, 1, 0)", x.find(0, -1, 1, 0), -1);
        is("find(0, 0, 6, 0)", x.find(0, 0, 6, 0), -1);
        is("find(0, 0, -1, 0)", x.find(0, 0, -1, 0), -1);
        is("find(0, 0, 1, 1)", x.find(0, 0, 1, 1), -2);
        is("find(0, 1, 1, 1000)", x.find(0, 1, 1, 1000), -2);
        is("find(0, 1, 1, -1)", x.find(0, 1, 1, -1), -2);
    }

    private static void legs() {
        due.part("promise 11");
        LegHedge x = new LegHedge();
        x.trade(3, 1, 2, 105, -7);
        long[] want = {3, 1, 2, 105, -7};
        for (int what = 0; what < 5; what++) {
            is("legOf(0, " + what + ")", x.legOf(0, what), want[what]);
        }
        // 101: 0 and (60 - 4) / 2; 99: 0 and (60 - 6) / 2; 28 - 27 = 1
        is("legOf(0, 5)", x.legOf(0, 5), -35);
        is("legOf(0, 6)", x.legOf(0, 6), NO);
        is("legOf(0, -1)", x.legOf(0, -1), NO);
        is("legOf(1, 0)", x.legOf(1, 0), NO);
        is("legOf(-1, 0)", x.legOf(-1, 0), NO);
        is("legOf(HIGH, 5)", x.legOf(HIGH, 5), NO);
        LegHedge y = new LegHedge();
        y.ground(0, 0, 1);
        y.trade(0, 0, 0, 0, 3);
        is("a DELTA by PRICE 0", y.legOf(0, 5), 30);
        // 2: 0 and (20 - 0) / 2; 0: 2 and (20 - 2) / 2; 10 - 11
        y.trade(0, 2, 0, 2, 3);
        is("a DELTA of a PUT by PRICE 0", y.legOf(1, 5), -15);
        y.trade(0, 0, 0, 0, -13);
        is("a DELTA of a short FUTURE", y.legOf(0, 5), -100);
    }

    private static void values() {
        due.part("promise 12");
        LegHedge x = new LegHedge();
        x.move(-10, 2, 100);
        x.move(99, -9, 1);
        x.trade(0, 0, 0, 0, 1);
        x.trade(0, 1, 0, 100, 1);
        x.trade(0, 2, 1, 103, 1);
        x.trade(0, 3, 0, 80, 1);
        x.trade(0, 4, 0, 97, 1);
        long[][] want = {
            {100, 90, 199}, {10, 6, 99}, {3 + 18, 13 + 15, 0}, {9, 9 + 6, 9}, {3 + 8, 7 + 7, 102}};
        for (int leg = 0; leg < 5; leg++) {
            for (int move = -1; move < 2; move++) {
                is("value(" + leg + ", " + move + ")", x.value(leg, move), want[leg][move + 1]);
            }
        }
        is("value(5, 0)", x.value(5, 0), -1);
        is("value(-1, 0)", x.value(-1, 0), -1);
        is("value(0, 2)", x.value(0, 2), -1);
        is("value(0, -2)", x.value(0, -2), -1);
        x.ground(0, 1, 0);
        is("a VALUE without UNREST", x.value(1, -1), 0);
        x.trade(0, 4, 5, 100, 1);
        is("a VALUE at the STRIKE", x.value(5, -1), 0);
        x.ground(0, 1, 1);
        is("a VALUE at the STRIKE", x.value(5, -1), 3);
        is("half, cut", x.value(1, -1), 0);
    }

    private static void takens() {
        due.part("promise 13");
        LegHedge x = new LegHedge();
        x.ground(0, 0, 120);
        x.trade(0, 0, 0, 0, 1);
        x.trade(0, 1, 0, 100, 1);
        x.trade(0, 2, 0, 125, 1);
        x.trade(0, 3, 0, 100, 1);
        x.trade(0, 4, 0, 100, 1);
        x.trade(0, 4, 0, 150, 1);
        x.trade(0, 3, 0, 115, 1);
        int[][] want = {
            {120, -12, -12, -12, -12},
            {-12, 20, -12, -12, -12},
            {-12, -12, 5, -12, -12},
            {-12, 9, -12, 9, -12},
            {-12, -12, 20, -12, 20},
            {-12, -12, 30, -12, 30},
            {-12, 5, -12, 5, -12}};
        for (int leg = 0; leg < want.length; leg++) {
            for (int k = 0; k < 5; k++) {
                is("taken(" + leg + ", " + k + ")", x.taken(leg, k), want[leg][k]);
            }
            is("taken(" + leg + ", -1)", x.taken(leg, -1), -2);
            is("taken(" + leg + ", 5)", x.taken(leg, 5), -2);
        }
        is("taken(7, 5)", x.taken(7, 5), -1);
        is("taken(-1, 0)", x.taken(-1, 0), -1);
    }

    private static void losses() {
        due.part("promises 14, 15");
        LegHedge x = new LegHedge();
        x.ground(0, 2, 3);
        x.move(10, 0, 35);
        x.move(-10, 0, 33);
        x.trade(0, 0, 0, 0, 1);
        x.trade(0, 0, 1, 0, -2);
        x.trade(1, 0, 0, 0, 1);
        is("loss(0, 0)", x.loss(0, 0), -10);
        is("loss(0, 1)", x.loss(0, 1), 9);
        is("loss(1, 0)", x.loss(1, 0), 21);
        is("loss(1, 1)", x.loss(1, 1), -19);
        is("loss(2, 0)", x.loss(2, 0), -3);
        is("loss(2, 1)", x.loss(2, 1), 3);
        is("row(0, 0)", x.row(0, 0), 11);
        is("row(0, 1)", x.row(0, 1), -10);
        is("row(1, 0)", x.row(1, 0), -3);
        is("row(4, 1)", x.row(4, 1), 0);
        is("loss(3, 0)", x.loss(3, 0), NO);
        is("loss(-1, 0)", x.loss(-1, 0), NO);
        is("loss(0, 2)", x.loss(0, 2), NO);
        is("loss(0, -1)", x.loss(0, -1), NO);
        is("row(5, 0)", x.row(5, 0), NO);
        is("row(-1, 0)", x.row(-1, 0), NO);
        is("row(0, 2)", x.row(0, 2), NO);
        is("row(0, -1)", x.row(0, -1), NO);
    }

    private static void overLosses() {
        due.part("OVER: LOSSES");
        LegHedge x = new LegHedge();
        x.ground(0, 2, 1000000);
        x.trade(0, 0, 0, 0, 2147);
        is("QUANTITY times SIZE without a MOVE", x.trade(0, 0, 0, 0, 1), 2148);
        is("QUANTITY times SIZE by a MOVE that changes nothing", x.move(0, 0, 1), -15);
        is("trade", x.trade(0, 0, 0, 0, -1), 2147);
        is("move(0, 0, 1)", x.move(0, 0, 1), 0);
        is("times SIZE", x.trade(0, 0, 0, 0, 1), -15);
        is("legOf(0, 4)", x.legOf(0, 4), 2147);
        is("times the difference", x.move(1, 0, 1), 1);
        is("times the difference", x.move(2, 0, 1), -15);
        is("times WEIGHT", x.move(1, 0, 2), -15);
        x.trade(0, 0, 0, 0, -2146);
        is("times WEIGHT", x.move(21, 0, 100), 2);
        is("times WEIGHT", x.move(22, 0, 100), -15);
        is("loss(0, 2)", x.loss(0, 2), -21000000);
        // -2^31 is an int, 2^31 is none
        LegHedge y = new LegHedge();
        y.ground(0, 2, 1 << 19);
        y.trade(0, 0, 0, 0, 1 << 6);
        is("move to -2^31", y.move(1, 0, 64), 0);
        is("loss(0, 0)", y.loss(0, 0), -21474836);
        is("move to 2^31", y.move(-1, 0, 64), -15);
    }

    private static void scansAndCharges() {
        due.part("promise 16");
        LegHedge x = new LegHedge();
        x.move(10, 0, 100);
        x.move(-10, 0, 100);
        x.trade(0, 0, 0, 0, 5);
        x.trade(0, 0, 1, 0, -3);
        x.trade(0, 0, 2, 0, -4);
        x.trade(0, 0, 5, 0, 1);
        is("SCAN", x.risk(0, 0), 10);
        // 1 apart: 30 of 0 and 1; 2 apart: 20 of 0 and 2; 3 apart: 10 of 2 and 5
        is("CHARGES", x.risk(0, 1), 30 * 2 / 10 + 20 * 2 * 2 / 10 + 10 * 2 * 3 / 10);
        is("SHORT", x.risk(0, 2), 0);
        is("PER", x.risk(0, 3), 10);
        is("DELTA", x.risk(0, 4), -10);
        long[] by = {50, -30, -40, 0, 0, 10};
        for (int e = 0; e < 6; e++) {
            is("DELTA by " + e, x.risk(0, 5 + e), by[e]);
        }
        is("told(2)", x.told(2), 20);
        is("told(0)", x.told(0), 30);
        x.ground(0, 4, 3);
        is("each charge cut", x.risk(0, 1), 9 + 12 + 9);
        // 1 apart, least e first: 1 and 2, then 3 and 4; 0 and 1 are alike
        LegHedge y = new LegHedge();
        y.ground(0, 4, 1);
        y.trade(0, 1, 0, 0, 1);
        y.trade(0, 1, 1, 100, 1);
        y.trade(0, 0, 2, 0, -1);
        y.trade(0, 0, 3, 0, 2);
        y.trade(0, 0, 4, 0, -1);
        is("DELTA by 0", y.risk(0, 5), 10);
        is("DELTA by 1", y.risk(0, 6), 5);
        is("CHARGES", y.risk(0, 1), 5 / 10 + 5 / 10 + 10 / 10);
        is("risk(5, 0)", y.risk(5, 0), NO);
        is("risk(-1, 0)", y.risk(-1, 0), NO);
        is("risk(0, 11)", y.risk(0, 11), NO);
        is("risk(0, -1)", y.risk(0, -1), NO);
        is("PER by a DELTA of 0", perByNone(), 0);
    }

    private static long perByNone() {
        LegHedge x = new LegHedge();
        x.move(0, 9, 100);
        x.trade(0, 4, 0, 100, -4);
        is("DELTA", x.risk(0, 4), 0);
        is("SCAN", x.risk(0, 0), 16);
        return x.risk(0, 3);
    }

    private static void shortsAndFloors() {
        due.part("promises 16, 17");
        LegHedge x = new LegHedge();
        x.ground(1, 5, 7);
        x.trade(0, 1, 0, 100, -4);
        x.trade(0, 2, 0, 100, 6);
        x.trade(0, 4, 1, 100, -3);
        x.trade(0, 0, 0, 0, -50);
        x.trade(1, 3, 0, 90, -2);
        is("SHORT of 0", x.risk(0, 2), 7);
        is("SHORT of 1", x.risk(1, 2), 2);
        is("FLOORS", x.told(3), 7 + 14);
        is("MARGIN", x.told(0), 21);
        is("told(6)", x.told(6), 5);
        is("told(9)", x.told(9), NO);
        is("told(-1)", x.told(-1), NO);
        is("told(LOW)", x.told(LOW), NO);
        LegHedge y = threeGrounds();
        is("SCANS", y.told(1), 300);
        is("WORST", y.told(4), 100);
        is("MARGIN", y.told(0), 300);
        y.offset(0, 1, 1, 1, 0, 100);
        y.offset(0, 2, 1, 1, 0, 100);
        is("CREDITS", y.told(5), 200);
        is("MARGIN", y.told(0), 100);
        y.ground(0, 2, 2);
        // SCANS 400, ROWS by up: -200, 100, 100; by down: 200, -100, -100
        is("WORST", y.told(4), 0);
        is("CREDITS", y.told(5), 300);
        is("MARGIN", y.told(0), 100);
        y.still(1);
        is("SCANS of one MOVE", y.told(1), 200);
        is("CREDITS by a PER of 0", y.told(5), 100);
        LegHedge z = new LegHedge();
        z.move(10, 0, 100);
        z.trade(0, 0, 0, 0, 3);
        is("SCAN, 0 at least", z.risk(0, 0), 0);
        is("WORST, 0 at least", z.told(4), 0);
        z.trade(1, 0, 0, 0, -3);
        z.offset(0, 1, 1, 1, 0, 100);
        is("CREDITS", z.told(5), 30);
        is("MARGIN", z.told(0), 0);
    }

    private static void orders() {
        due.part("promises 18, 19, 20");
        LegHedge x = threeGrounds();
        is("order(0)", x.order(0), -1);
        is("ordered(0)", x.ordered(0), 0);
        is("ordered(1)", x.ordered(1), NO);
        is("ordered(-1)", x.ordered(-1), NO);
        x.offset(0, 1, 1, 1, 0, 50);
        is("order(0)", x.order(0), 0);
        is("ordered(0)", x.ordered(0), 100);
        x.offset(0, 2, 1, 1, 0, 80);
        is("order(0)", x.order(0), 1);
        is("order(1)", x.order(1), 0);
        is("order(2)", x.order(2), -1);
        is("order(-1)", x.order(-1), -1);
        is("used(0, 0)", x.used(0, 0), 0);
        is("used(0, 1)", x.used(0, 1), 0);
        is("used(1, 0)", x.used(1, 0), 10);
        is("used(1, 1)", x.used(1, 1), 160);
        is("used(2, 0)", x.used(2, 0), -1);
        is("used(-1, 0)", x.used(-1, 0), -1);
        is("used(0, 2)", x.used(0, 2), -1);
        is("used(0, -1)", x.used(0, -1), -1);
        is("ordered(0)", x.ordered(0), 100);
        is("ordered(1)", x.ordered(1), 160);
        is("ordered(2)", x.ordered(2), NO);
        is("used(1, 1) behind ordered()", x.used(1, 1), 160);
        is("told(5)", x.told(5), 160);
        is("told(0)", x.told(0), 140);
        // a third one that is used by none of the others' grounds stands as early as it may
        x.trade(3, 0, 0, 0, 10);
        x.trade(4, 0, 0, 0, 10);
        x.offset(3, 4, 1, 1, 1, 10);
        int[] order = {1, 0, 2};
        for (int k = 0; k < 3; k++) {
            is("order(" + k + ")", x.order(k), order[k]);
        }
        // 0 1 2, 0 2 1, 1 0 2, 1 2 0, 2 0 1, 2 1 0
        long[] by = {120, 120, 180, 180, 120, 180};
        for (int number = 0; number < 6; number++) {
            is("ordered(" + number + ")", x.ordered(number), by[number]);
        }
        is("ordered(6)", x.ordered(6), NO);
        x.unset(0);
        is("order(0) of several alike", x.order(0), 0);
        is("order(1) of several alike", x.order(1), 1);
        sixOffsets();
    }

    private static void sixOffsets() {
        LegHedge x = threeGrounds();
        for (int i = 0; i < 6; i++) {
            x.offset(0, 1 + i % 2, 1, 1, 0, 10 * (i + 1));
        }
        // each takes all of 0, so the greatest RATE goes first, the others as they come
        int[] order = {5, 0, 1, 2, 3, 4};
        for (int k = 0; k < 6; k++) {
            is("order(" + k + ")", x.order(k), order[k]);
        }
        for (int first = 0; first < 6; first++) {
            is("ordered(" + first * 120 + ")", x.ordered(first * 120), 20 * (first + 1));
            is("ordered(" + (first * 120 + 119) + ")", x.ordered(first * 120 + 119), 20 * (first + 1));
        }
        is("ordered(720)", x.ordered(720), NO);
        is("ordered(HIGH)", x.ordered(HIGH), NO);
        is("told(5)", x.told(5), 120);
    }

    private static void partsAndSides() {
        due.part("promises 16, 19: PARTS, SIDES");
        LegHedge x = threeGrounds();
        x.offset(0, 1, 1, 1, 1, 100);
        x.offset(1, 2, 1, 1, 0, 100);
        is("unlike signs, likes told", x.used(0, 0), 0);
        is("like signs, unlikes told", x.used(1, 0), 0);
        is("told(5)", x.told(5), 0);
        x.unset(0);
        x.unset(0);
        x.offset(1, 2, 3, 2, 1, 50);
        // of 100 by 30, of 100 by 20: 3 times (3 times 10 and 2 times 10) times 50 by 100
        is("k", x.used(0, 0), 3);
        is("CREDIT", x.used(0, 1), 75);
        x.offset(0, 1, 1, 1, 0, 50);
        // first: 3; then what is left of 1 is 10: k 1, CREDIT 10. Or 10, 100, and nothing is left
        is("order(0)", x.order(0), 1);
        is("ordered(0)", x.ordered(0), 75 + 10);
        is("ordered(1)", x.ordered(1), 100);
        x.trade(0, 0, 0, 0, -10);
        is("a DELTA of 0", x.used(1, 0), 0);
        is("told(5)", x.told(5), 75);
        x.unset(1);
        x.unset(0);
        x.offset(1, 2, 1, 1, 1, 33);
        x.trade(1, 0, 0, 0, 9);
        is("cut CREDIT", x.used(0, 1), 6);
        x.trade(1, 0, 0, 0, 1);
        x.trade(1, 1, 0, 100, -1);
        is("DELTA of 1", x.risk(1, 4), -5);
        is("k of less than ten tenths", x.used(0, 0), 0);
    }

    private static void overCredits() {
        due.part("OVER: CREDITS");
        LegHedge x = new LegHedge();
        x.move(10, 0, 100);
        x.move(-10, 0, 100);
        is("trade", x.trade(0, 0, 0, 0, 1000000), 1000000);
        is("trade", x.trade(1, 0, 0, 0, -1000000), -1000000);
        is("trade", x.trade(1, 0, 0, 0, -100000), -1100000);
        is("SCANS", x.told(1), 21000000);
        // PER 10 and 10, k 1000000: 20000000, times RATE
        is("offset", x.offset(0, 1, 1, 1, 0, 100), 0);
        is("told(5)", x.told(5), 20000000);
        is("trade", x.trade(0, 0, 0, 0, 100000), -15);
        is("legOf(0, 4)", x.legOf(0, 4), 1000000);
        is("unset", x.unset(0), 0);
        is("trade", x.trade(0, 0, 0, 0, 100000), 1100000);
        is("offset", x.offset(0, 1, 1, 1, 0, 100), -15);
        is("told(8)", x.told(8), 0);
        is("offset", x.offset(0, 1, 1, 1, 0, 97), 0);
        is("offset", x.offset(0, 1, 1, 1, 0, 98), -15);
        is("told(5)", x.told(5), 21340000);
        is("k is the lesser's still", x.would(0, 0, 0, 0, 50000), 22500000 - 21340000);
        is("trade", x.trade(0, 0, 0, 0, 50000), 1150000);
        is("k of both is more", x.would(1, 0, 0, 0, -50000), NO);
    }

    private static void overSums() {
        due.part("OVER: SCANS, PER");
        LegHedge x = new LegHedge();
        x.move(10, 0, 100);
        for (int e = 0; e < 6; e++) {
            x.trade(0, 0, e, 0, -1000000);
            x.trade(0, 0, e, 0, -1000000);
        }
        is("SCAN of six FUTURES", x.risk(0, 0), 120000000);
        // CALLS of STRIKE 0 that have no TIME left are as FUTURES
        for (int e = 0; e < 4; e++) {
            x.trade(0, 1, e, 0, -1000000);
            x.trade(0, 1, e, 0, -1000000);
        }
        is("SCAN", x.risk(0, 0), 200000000);
        x.trade(0, 1, 4, 0, -1000000);
        is("10 times SCAN is 2147483600", x.trade(0, 1, 4, 0, -474836), -1474836);
        is("SCAN", x.risk(0, 0), 214748360);
        is("PER", x.risk(0, 3), 10);
        is("10 times SCAN is 2147483700", x.trade(0, 1, 4, 0, -1), -15);
        is("another GROUND", x.trade(1, 1, 4, 0, -1), -1);
        LegHedge y = new LegHedge();
        y.ground(0, 5, 99);
        for (int i = 0; i < 21; i++) {
            y.trade(0, 1, 0, 100, -1000000);
        }
        is("SHORT times FLOOR", y.trade(0, 1, 0, 100, -691754), -21691754);
        is("SHORT times FLOOR", y.trade(0, 1, 0, 100, -1), -15);
        is("FLOORS", y.told(3), 2147483646);
        is("FLOORS of all together", y.trade(1, 1, 0, 100, -1), -1);
        is("FLOORS of all together", y.trade(1, 1, 0, 100, -1), -15);
        is("FLOORS", y.told(3), HIGH);
        overCharges();
    }

    private static void overCharges() {
        LegHedge x = new LegHedge();
        x.ground(0, 4, 99);
        // m is ten times what is hedged, times SPREAD 99, times 5
        is("long", x.trade(0, 0, 0, 0, 1000000), 1000000);
        is("short", x.trade(0, 0, 5, 0, -433835), -433835);
        is("m times SPREAD times 5", x.trade(0, 0, 5, 0, -1), -15);
        is("CHARGES", x.told(2), 4338350L * 99 * 5 / 10);
        LegHedge y = new LegHedge();
        y.ground(0, 4, 99);
        for (int i = 0; i < 2; i++) {
            y.trade(0, 0, 0, 0, 1000000);
            y.trade(0, 0, 1, 0, -1000000);
        }
        is("m times SPREAD", y.trade(0, 0, 0, 0, 200000), 2200000);
        is("m times SPREAD is 2147483250", y.trade(0, 0, 1, 0, -169175), -2169175);
        is("m times SPREAD is 2147484240", y.trade(0, 0, 1, 0, -1), -15);
        is("CHARGES", y.told(2), 214748325);
    }

    private static void overDeltas() {
        due.part("OVER: DELTAS");
        LegHedge x = new LegHedge();
        for (int i = 0; i < 429; i++) {
            x.trade(0, 0, 0, 0, i < 214 ? -1000000 : -1);
        }
        is("legOf(0, 4)", x.legOf(0, 4), -214000215);
        is("DELTA", x.risk(0, 4), -2140002150);
        is("to -2147483640", x.trade(0, 0, 0, 0, -748149), -214748364);
        is("one beyond", x.trade(0, 0, 0, 0, -1), -15);
        is("another EXPIRY, alike", x.trade(0, 0, 1, 0, -1), -15);
        is("another EXPIRY, unlike", x.trade(0, 0, 1, 0, 1), 1);
        is("another GROUND", x.trade(1, 0, 1, 0, -1), -1);
        is("the first back alone", x.trade(0, 0, 1, 0, -1), 0);
        // CALLS at 100 have a DELTA of 5 each: -2147483645, then -2147483648 can't be met
        is("half of one more", x.trade(0, 1, 0, 100, -1), -1);
        is("DELTA", x.risk(0, 4), -2147483645);
        is("another half", x.trade(0, 1, 1, 100, -1), -15);
    }

    /** Trades of a million each, and the rest: a QUANTITY that one call can't bring. */
    private static void tradeUpTo(LegHedge x, int kind, int expiry, int quantity) {
        int sign = quantity < 0 ? -1 : 1;
        int strike = kind == 1 ? 999 : 0;
        int rest = Math.abs(quantity);
        for (; rest > 1000000; rest -= 1000000) {
            x.trade(0, kind, expiry, strike, sign * 1000000);
        }
        is("up to " + quantity, x.trade(0, kind, expiry, strike, sign * rest), quantity);
    }

    private static void overLegDeltas() {
        LegHedge x = new LegHedge();
        tradeUpTo(x, 1, 0, 429496729);
        is("QUANTITY times 5", x.trade(0, 1, 0, 999, 1), -15);
        is("DELTA", x.risk(0, 4), 0);
        LegHedge y = new LegHedge();
        tradeUpTo(y, 0, 0, 214748364);
        is("DELTAS by EXPIRY", y.trade(0, 1, 0, 0, 1), -15);
        is("another EXPIRY", y.trade(0, 0, 1, 0, -10), -10);
        is("DELTAS by EXPIRY, not together", y.trade(0, 1, 0, 0, 1), -15);
        is("less of it", y.trade(0, 1, 0, 0, -10), -10);
        is("DELTA of a LEG, not by EXPIRY", y.trade(0, 0, 0, 0, 1), -15);
        is("DELTA by EXPIRY", y.risk(0, 5), 2147483540);
        is("DELTA of a LEG", y.legOf(0, 5), 2147483640);
    }

    private static void overParts() {
        due.part("OVER: PARTS times PER");
        LegHedge x = new LegHedge();
        x.move(10, 0, 100);
        x.move(-10, 0, 100);
        x.ground(0, 2, 1000000);
        for (int e = 0; e < 6; e++) {
            x.trade(0, 4, e, 100, -4);
        }
        is("SCAN of six that have no DELTA", x.risk(0, 0), 120000000);
        x.trade(1, 0, 0, 0, 1);
        is("a DELTA of 0", x.offset(0, 1, 9, 9, 0, 100), 0);
        is("a CALL at the PRICE would make PER 250000000", x.would(0, 1, 0, 100, -1), NO);
        x.unset(0);
        is("a CALL at the PRICE", x.trade(0, 1, 0, 100, -1), -1);
        is("PER", x.risk(0, 3), 250000000);
        is("9 times PER", x.offset(0, 1, 9, 9, 0, 100), -15);
        is("9 times PER of b", x.offset(1, 0, 9, 9, 0, 100), -15);
        is("9 times PER of signs that don't fit", x.offset(0, 1, 9, 9, 1, 100), 0);
        is("8 times PER", x.offset(0, 1, 8, 9, 0, 100), 1);
        is("8 times PER of b", x.offset(1, 0, 9, 8, 0, 100), 2);
        is("k", x.used(1, 0), 0);
        x.unset(2);
        x.unset(1);
        x.unset(0);
        x.ground(1, 2, 1000000);
        for (int e = 1; e < 5; e++) {
            x.trade(1, 4, e, 100, -4);
        }
        is("SCAN of 1", x.risk(1, 0), 90000000);
        is("PER of 1", x.risk(1, 3), 90000000);
        is("2000000000 and 90000000", x.offset(0, 1, 8, 1, 0, 0), 0);
        is("2000000000 and 180000000", x.offset(0, 1, 8, 2, 0, 0), -15);
        is("180000000 and 2000000000", x.offset(1, 0, 2, 8, 0, 0), -15);
    }

    private static void overChargesTogether() {
        due.part("OVER: CHARGES of all, SCANS and CHARGES");
        LegHedge x = new LegHedge();
        for (int g = 0; g < 5; g++) {
            x.ground(g, 4, 99);
        }
        for (int pair = 0; pair < 10; pair++) {
            for (int sign = 1; sign >= -1; sign -= 2) {
                int e = pair % 3 * 2 + (sign < 0 ? 1 : 0);
                x.trade(pair / 3, 0, e, 0, sign * 1000000);
                x.trade(pair / 3, 0, e, 0, sign * 1000000);
                x.trade(pair / 3, 0, e, 0, sign * 169175);
            }
        }
        is("CHARGES of 0", x.risk(0, 1), 3 * 214748325);
        is("CHARGES", x.told(2), 2147483250);
        is("one side", x.trade(3, 0, 2, 0, 5), 5);
        is("CHARGES and 495", x.trade(3, 0, 3, 0, -5), -15);
        is("CHARGES and 396", x.trade(3, 0, 3, 0, -4), -4);
        is("CHARGES", x.told(2), 2147483646);
        x.trade(3, 0, 3, 0, 4);
        x.trade(3, 0, 2, 0, -5);
        is("move", x.move(9, 0, 100), 0);
        is("SCANS", x.told(1), 0);
        is("SCANS and CHARGES", x.trade(4, 0, 0, 0, -44), -44);
        is("SCANS and CHARGES", x.trade(4, 0, 0, 0, -1), -15);
        is("MARGIN", x.told(0), 2147483646);
        // 36 of CREDITS come behind SCANS and CHARGES: these are OVER all the same
        x.trade(3, 0, 4, 0, 4);
        is("offset", x.offset(3, 4, 1, 1, 0, 100), 0);
        is("CREDITS", x.told(5), 36);
        is("MARGIN", x.told(0), 2147483610);
        is("SCANS and CHARGES", x.trade(4, 0, 0, 0, -1), -15);
    }

    private static void woulds() {
        due.part("promise 21");
        LegHedge x = threeGrounds();
        is("would", x.would(0, 0, 0, 0, 5), 350);
        is("would", x.would(0, 0, 0, 0, -10), 200);
        is("would", x.would(3, 1, 0, 100, -900), 300 + 900 * 5);
        is("told(0)", x.told(0), 300);
        is("count(0)", x.count(0), 3);
        is("ground", x.would(5, 0, 0, 0, 5), NO);
        is("kind", x.would(0, 5, 0, 0, 5), NO);
        is("expiry", x.would(0, 0, 6, 0, 5), NO);
        is("strike", x.would(0, 0, 0, 1, 5), NO);
        is("q", x.would(0, 0, 0, 0, 0), NO);
        is("q", x.would(0, 0, 0, 0, 1000001), NO);
        is("ground(0, 2, 100000)", x.ground(0, 2, 100000), 1);
        is("up to 21 times 100000 times 10 times 100", x.would(0, 0, 0, 0, 11), 21000000 + 200);
        is("OVER", x.would(0, 0, 0, 0, 12), NO);
        for (int i = 0; i < 21; i++) {
            x.trade(4, 2, 0, i, 1);
        }
        is("FULL", x.would(3, 0, 0, 0, 5), NO);
    }

    private static void hedges() {
        due.part("promise 22");
        LegHedge x = new LegHedge();
        is("nothing", x.hedge(0, 0), 0);
        x.move(10, 0, 100);
        x.move(-10, 0, 100);
        x.trade(0, 0, 0, 0, 10);
        is("hedge(0, 0)", x.hedge(0, 0), -10);
        is("hedge(0, 1)", x.hedge(0, 1), -10);
        is("would", x.would(0, 0, 1, 0, -10), 20);
        is("hedge(1, 0)", x.hedge(1, 0), 0);
        x.trade(0, 0, 0, 0, -9);
        is("one short of one", x.hedge(0, 0), -1);
        x.trade(0, 0, 0, 0, -2);
        is("one long of one", x.hedge(0, 0), 1);
        x.trade(0, 0, 0, 0, 11);
        x.ground(0, 4, 50);
        is("charges of more than all", x.hedge(0, 1), 0);
        is("count(0)", x.count(0), 1);
        is("told(0)", x.told(0), 100);
        x.trade(0, 0, 0, 0, 15);
        is("20 at most", x.hedge(0, 0), -20);
        x.trade(0, 0, 0, 0, -50);
        is("20 at most", x.hedge(0, 0), 20);
        is("ground", x.hedge(5, 0), -1);
        is("ground", x.hedge(-1, 0), -1);
        is("expiry", x.hedge(0, 6), -1);
        is("expiry", x.hedge(0, -1), -1);
        // MARGIN is the same by all q: none is the least without sign
        LegHedge y = new LegHedge();
        y.move(10, 0, 100);
        y.move(-10, 0, 100);
        y.trade(1, 1, 0, 100, -40);
        y.ground(1, 5, 99);
        is("FLOORS are all", y.told(0), 40 * 99);
        is("hedge(0, 0)", y.hedge(0, 0), 0);
        LegHedge z = new LegHedge();
        z.ground(0, 2, 1000000);
        z.trade(0, 0, 0, 0, 30);
        z.move(-1, 0, 70);
        is("SCAN", z.risk(0, 0), 21000000);
        is("OVER", z.would(0, 0, 0, 0, 1), NO);
        is("hedge(0, 0)", z.hedge(0, 0), -20);
        // ten short of 0 go with 1, ten long with 2: both are worth the same, that below 0 wins
        LegHedge w = new LegHedge();
        w.move(10, 0, 100);
        w.move(-10, 0, 100);
        w.trade(1, 0, 0, 0, 10);
        w.trade(2, 0, 0, 0, -10);
        w.offset(0, 1, 1, 1, 0, 100);
        w.offset(0, 2, 1, 1, 0, 100);
        is("told(0)", w.told(0), 200);
        is("would -10", w.would(0, 0, 0, 0, -10), 100);
        is("would 10", w.would(0, 0, 0, 0, 10), 100);
        is("would -9", w.would(0, 0, 0, 0, -9), 110);
        is("hedge(0, 0)", w.hedge(0, 0), -10);
    }

    private static void shares() {
        due.part("promise 23");
        LegHedge x = threeGrounds();
        is("share(0, 0)", x.share(0, 0), 1);
        is("share(0, 1)", x.share(0, 1), 3);
        x.trade(0, 0, 0, 0, 5);
        is("share(0, 0)", x.share(0, 0), 3);
        is("share(0, 1)", x.share(0, 1), 7);
        is("share(4, 0)", x.share(4, 0), 0);
        is("share(4, 1)", x.share(4, 1), 1);
        is("share(5, 0)", x.share(5, 0), NO);
        is("share(-1, 0)", x.share(-1, 0), NO);
        is("share(0, 2)", x.share(0, 2), NO);
        is("share(0, -1)", x.share(0, -1), NO);
        x.trade(1, 0, 0, 0, 10);
        x.trade(2, 0, 0, 0, 10);
        is("all of it", x.share(0, 0), 1);
        is("all of it", x.share(0, 1), 1);
        x.trade(0, 0, 0, 0, -15);
        is("SCANS 0", x.share(0, 0), NO);
    }

    private static void seen() {
        due.part("promises 24, 25");
        LegHedge x = new LegHedge();
        x.trade(0, 1, 0, 100, -5);
        is("fits(0)", x.fits(0), 10);
        is("fits(1)", x.fits(1), 0);
        is("fits(2)", x.fits(2), -1);
        is("fits(-1)", x.fits(-1), -1);
        is("see(0, 0)", x.see(0, 0), -2);
        is("see(301, 0)", x.see(301, 0), -2);
        is("see(-2, 0)", x.see(-2, 0), -2);
        is("see(100, -1)", x.see(100, -1), -2);
        is("see(100, 20)", x.see(100, 20), 1);
        is("fits(0)", x.fits(0), 1);
        is("fits(1)", x.fits(1), 4);
        is("groundOf(0, 5)", x.groundOf(0, 5), 1);
        is("see(50, 8)", x.see(50, 8), 2);
        is("see(300, 60)", x.see(300, 60), 3);
        is("see(1, 0)", x.see(1, 0), 4);
        is("fits(1)", x.fits(1), 4);
        is("see(1, 0)", x.see(1, 0), -4);
        is("see(0, 0)", x.see(0, 0), -2);
        is("see(-1, -7)", x.see(-1, -7), 0);
        is("count(3)", x.count(3), 0);
        x.see(10, 0);
        is("none of the LEGS is left", x.fits(0), 10);
        x.see(10, 1);
        is("fits(0)", x.fits(0), 0);
        is("fits(1)", x.fits(1), -5);
        x.see(-1, 0);
        // two CALLS lose 5 each: SCAN 10, which FLOORS of 2 are not above up to FLOOR 5
        x.move(10, 0, 100);
        is("loss(0, 0)", x.loss(0, 0), 25);
        x.see(40, 10);
        is("MARGIN by SCAN", x.fits(0), 6);
        is("MARGIN by SCAN", x.fits(1), 0);
        x.see(20, 6);
        is("fits(0)", x.fits(0), 0);
        is("fits(1)", x.fits(1), -5);
        x.see(-1, 0);
        x.see(40, 12);
        is("fits(0)", x.fits(0), 1);
        is("fits(1)", x.fits(1), 6);
        seenOver();
    }

    private static void seenOver() {
        LegHedge x = new LegHedge();
        x.ground(0, 2, 1000000);
        x.ground(0, 5, 99);
        x.trade(0, 1, 0, 100, -1);
        x.move(10, 0, 100);
        is("told(0)", x.told(0), 5000000);
        x.see(300, 15000000);
        is("three times of it", x.fits(0), 10);
        x.see(-1, 0);
        x.trade(0, 1, 0, 100, -1);
        x.see(100, 10000000);
        is("as it is", x.fits(0), 10);
        x.see(300, 30000000);
        is("OVER doesn't fit", x.fits(0), 0);
        is("OVER doesn't fit", x.fits(1), -5);
        // FLOORS alone are OVER by some FLOORS: 300000000 times 8
        LegHedge y = new LegHedge();
        for (int i = 0; i < 100; i++) {
            y.trade(0, 1, 0, 100, -1000000);
        }
        y.see(300, 300000000 * 7);
        is("the last that is no OVER", y.fits(1), 7);
        is("the last that is no OVER", y.fits(0), 1);
        y.see(-1, 0);
        y.see(300, (int) (300000000L * 8));
        is("OVER doesn't fit", y.fits(0), 10);
        is("count(3)", y.count(3), 0);
    }

    private static void plans() {
        due.part("promises 26, 27");
        LegHedge x = threeGrounds();
        is("ends()", x.ends(), 300);
        is("plan(-2, 0)", x.plan(-2, 0), -1);
        is("plan(4, 0)", x.plan(4, 0), -1);
        is("plan(2, 3)", x.plan(2, 3), -1);
        is("plan(2, -1)", x.plan(2, -1), -1);
        is("plan(3, 2)", x.plan(3, 2), -1);
        is("plan(3, -1)", x.plan(3, -1), -1);
        is("plan(0, 1000)", x.plan(0, 1000), -2);
        is("plan(1, -1000)", x.plan(1, -1000), -2);
        is("plan(2, 0)", x.plan(2, 0), 1);
        is("ends()", x.ends(), 200);
        is("plan(2, 2)", x.plan(2, 2), 2);
        is("ends()", x.ends(), 100);
        is("plan(2, 2)", x.plan(2, 2), 3);
        is("ends()", x.ends(), 100);
        is("plan(3, 0)", x.plan(3, 0), 4);
        is("ends()", x.ends(), 0);
        is("told(0)", x.told(0), 300);
        is("count(0)", x.count(0), 3);
        is("plan(0, -999)", x.plan(0, -999), 5);
        is("plan(0, 999)", x.plan(0, 999), 6);
        is("plan(1, 999)", x.plan(1, 999), 7);
        is("plan(1, -999)", x.plan(1, -999), 8);
        is("plan(1, 0)", x.plan(1, 0), -4);
        is("plan(1, 1000)", x.plan(1, 1000), -2);
        is("plan(5, 1000)", x.plan(5, 1000), -1);
        is("groundOf(0, 0)", x.groundOf(0, 0), 100);
        is("plan(-1, HIGH)", x.plan(-1, HIGH), 0);
        is("count(4)", x.count(4), 0);
        x.plan(2, 2);
        x.plan(3, 1);
        x.trade(0, 0, 0, 0, -10);
        x.still(1);
        // LEG 2 and MOVE 1 are there no more: nothing goes
        is("ends()", x.ends(), 200);
        LegHedge y = threeGrounds();
        y.plan(2, 1);
        y.trade(1, 0, 0, 0, 10);
        y.trade(2, 0, 0, 0, 10);
        is("LEG 1 is there no more, MOVE 1 stays", y.ends(), 100);
        y.plan(-1, 0);
        y.plan(3, 1);
        y.still(1);
        y.move(-5, 0, 100);
        is("another MOVE 1", y.ends(), 0);
        y.still(1);
        y.move(-5, 0, 100);
        y.plan(-1, 0);
        is("ends()", y.ends(), 50);
        planOfPrices();
    }

    private static void planOfPrices() {
        LegHedge x = new LegHedge();
        x.move(-99, 0, 100);
        x.trade(0, 0, 0, 0, 1);
        x.ground(0, 3, 99);
        is("told(0)", x.told(0), 99);
        x.plan(0, -40);
        is("ends()", x.ends(), 59);
        x.plan(0, -100);
        is("at 1", x.ends(), 0);
        x.plan(0, 30);
        is("from 1 on", x.ends(), 30);
        x.plan(0, 999);
        is("999 less 980", x.ends(), 980);
        LegHedge y = new LegHedge();
        y.move(0, 9, 100);
        y.move(0, -9, 100);
        y.trade(0, 1, 1, 100, -1);
        y.trade(0, 1, 1, 101, 1);
        is("told(0)", y.told(0), 1);
        y.ground(0, 1, 90);
        y.plan(1, 30);
        y.plan(1, -98);
        // at UNREST 1, not 22: 1 less 10; then by -9 at 0: 1 and (2 - 1) / 2 are gone
        is("UNREST is 99 at most", y.ends(), 1);
        LegHedge z = new LegHedge();
        z.ground(0, 0, 1);
        z.ground(0, 2, 1000000);
        z.ground(0, 3, 99);
        z.move(99, 0, 100);
        is("trade", z.trade(0, 1, 0, 999, 1), 1);
        is("loss by 981: the VALUE is 1 more", z.loss(0, 0), -1000000);
        is("told(0)", z.told(0), 0);
        z.plan(0, 20);
        is("ends()", z.ends(), 0);
        z.plan(0, 879);
        is("OVER", z.ends(), NO);
        z.plan(2, 0);
        is("nothing is OVER behind all of it", z.ends(), 0);
    }

    private static void feeds() {
        due.part("promise 28");
        LegHedge x = new LegHedge();
        is("feed(-1)", x.feed(-1), -2);
        is("feed(128)", x.feed(128), -2);
        is("feed(LOW)", x.feed(LOW), -2);
        for (int i = 1; i <= 100; i++) {
            is("feed", x.feed(i == 1 ? 0 : 127), i);
        }
        is("feed(127)", x.feed(127), -4);
        is("feed(128)", x.feed(128), -2);
        is("count(5)", x.count(5), 100);
        is("read()", x.read(), -10);
        is("count(5)", x.count(5), 0);
        is("feed(0)", x.feed(0), 1);
    }

    private static void reads() {
        due.part("promise 29");
        LegHedge x = new LegHedge();
        is("trade", readAll(x, "t114.100.-12"), 1);
        is("legOf(0, 4)", x.legOf(0, 4), -12);
        is("legOf(0, 0)", x.legOf(0, 0), 1);
        is("legOf(0, 1)", x.legOf(0, 1), 1);
        is("legOf(0, 2)", x.legOf(0, 2), 4);
        is("legOf(0, 3)", x.legOf(0, 3), 100);
        is("trade", readAll(x, "t114.100.012;t114.001.1"), 2);
        is("count(0)", x.count(0), 1);
        is("legOf(0, 3)", x.legOf(0, 3), 1);
        is("moves", readAll(x, "m.-10.-9.5;m.99.9.100;m.-0.-0.1"), 3);
        is("moved(0, 0, 0)", x.moved(0, 0, 0), 90);
        is("moved(0, 0, 1)", x.moved(0, 0, 1), 11);
        is("moved(0, 1, 0)", x.moved(0, 1, 0), 199);
        is("moved(0, 2, 0)", x.moved(0, 2, 0), 100);
        is("refused ones", readAll(x, "t114.001.-0;t000.1.1;t500.0.1;m.1.1.101;m.1.1.0;o00111.1;o01011.5;p5.1;p0.0"), 0);
        is("offset", readAll(x, "o01231.050"), 1);
        is("told(8)", x.told(8), 1);
        is("price", readAll(x, "p4.007;p4.8;p3.999"), 3);
        is("groundOf(4, 0)", x.groundOf(4, 0), 8);
        is("groundOf(3, 0)", x.groundOf(3, 0), 999);
        is("ten", readAll(x, "p0.1;p0.2;p0.3;p0.4;p0.5;p0.6;p0.7;p0.8;p0.9;p0.10"), 10);
        is("one refused between", readAll(x, "p0.50;p9.60;p1.70"), 2);
        is("groundOf(1, 0)", x.groundOf(1, 0), 70);
        LegHedge y = new LegHedge();
        y.ground(0, 2, 1000000);
        is("OVER is refused", readAll(y, "t000.0.100;m.10.0.100;m.1.0.10"), 2);
        is("told(7)", y.told(7), 1);
        is("told(0)", readAll(y, "m.-1.0.10") == 1 ? y.told(0) : -1, 10000000);
    }

    private static void faults() {
        due.part("promise 29: FAULTS");
        String[] heads = {"t", "t0", "t01", "t010", "t010.", "t010.1", "t010.100", "t010.100.", "t010.100.-",
            "m", "m.", "m.-", "m.-1", "m.12", "m.1.", "m.1.-", "m.1.2", "m.1.2.", "o", "o0", "o0123", "o01234",
            "o01234.", "p", "p0", "p0.", "p0.1;", "p0.1;m", ""};
        for (String head : heads) {
            is("read " + head, readAll(new LegHedge(), head), -10 - head.length());
        }
        String[] wrong = {"x", " ", ";", "T", "-", "t-", "tx", "t0x", "t01x", "t010x", "t010-", "t0100", "t010..",
            "t010.-", "t010.100x", "t010.1000", "t010.100.x", "t010.100.--", "t010.100.-x", "t010.100.1234",
            "t010.100.-1.", "t010.100.1 ", "m1", "m.x", "m.--", "m.123", "m.-123", "m.1x", "m.1.12", "m.1.-12",
            "m.1.2.-", "m.1.2.1234", "m.1.2.3.", "o0x", "o012345", "o01234.-", "o01234.1234", "p00", "p0.-",
            "p0.1234", "p0.1;;", "p0.1;x", "p0.1;p0.1x", "p0.1t"};
        for (String text : wrong) {
            LegHedge x = new LegHedge();
            is("read " + text, readAll(x, text), -10 - (text.length() - 1));
            is("read " + text + "0;p0.5", readAll(x, text + "0;p0.5"), -10 - (text.length() - 1));
            is("count(5)", x.count(5), 0);
            is("groundOf(0, 0)", x.groundOf(0, 0), 100);
        }
        LegHedge x = new LegHedge();
        is("groundOf(0, 0)", x.groundOf(0, 0), 100);
        is("nothing is done", readAll(x, "p0.7;m.1.1.1;x"), -10 - 13);
        is("groundOf(0, 0)", x.groundOf(0, 0), 100);
        is("told(7)", x.told(7), 0);
        is("eleven", readAll(x, "p0.1;p0.1;p0.1;p0.1;p0.1;p0.1;p0.1;p0.1;p0.1;p0.1;p0.1"), -10 - 49);
        is("a tenth and ;", readAll(x, "p0.1;p0.1;p0.1;p0.1;p0.1;p0.1;p0.1;p0.1;p0.1;p0.1;"), -10 - 49);
        String hundred = "t010.100.-99;t010.100.-99;t010.100.-99;t010.100.-99;t010.100.-99;t010.100.-99;"
                + "t010.100.-99;m.1.1.001";
        is("feed", feedAll(x, hundred), 100);
        is("read of 100 signs", x.read(), 8);
        is("legOf(0, 4)", x.legOf(0, 4), -693);
        is("STIR of two digits at 97", readAll(x, hundred.substring(0, 94) + ".-10.1"), -10 - 97);
        String six = hundred.substring(0, 78);
        is("ends too early at 100", readAll(x, "t010.100.1;" + six + "p0.1;p1.10;"), -10 - 100);
    }

    private static void judges() {
        due.part("promise 30");
        LegHedge x = threeGrounds();
        is("no tape", x.judge(0, 6, 0), -1);
        is("no tape", x.judge(0, -1, 0), -1);
        is("no ground", x.judge(5, 0, 0), -1);
        is("no ground", x.judge(-1, 0, 0), -1);
        is("holds nothing", x.judge(0, 0, 0), 100);
        is("holds nothing", x.judge(0, 0, -5), 100);
        x.tape(0, 3, 10);
        is("longs", x.judge(0, 0, 0), -12);
        is("longs", x.judge(0, 0, -1), -12);
        x.tape(0, 2, 4);
        is("otherwise", x.judge(0, 0, 0), 0);
        is("all 0 of ground 3", x.judge(3, 0, 0), -5);
        x.item(0, 1, -100);
        is("otherwise the second", x.judge(0, 0, 1), 1);
        x.item(0, 2, 100);
        is("so", x.judge(0, 0, 1), -5);
        x.item(0, 3, -100);
        is("ends behind one", x.judge(0, 0, 3), 101);
        is("ends at once", x.judge(0, 0, 4), 100);
        is("beyond", x.judge(0, 0, HIGH), 100);
        is("below", x.judge(0, 0, -1), 100);
        is("below", x.judge(0, 0, LOW), 100);
        x.tape(0, 2, 0);
        is("a row of none", x.judge(0, 0, 0), 100);
        x.still(0);
        x.still(0);
        is("no MOVES", x.judge(0, 0, -7), -5);
        is("no MOVES, nothing there", x.judge(0, 1, 0), -5);
        x.tape(0, 4, 0);
        is("no MOVES, booleans", x.judge(0, 0, 0), -12);
        is("no MOVES, no ground", x.judge(5, 0, 0), -1);
    }

    private static void images() {
        due.part("promises 31, 32");
        LegHedge x = threeGrounds();
        x.offset(0, 1, 2, 3, 0, 50);
        x.see(100, 5);
        x.plan(0, 5);
        x.ground(3, 5, 9);
        x.tape(0, 2, 3);
        x.feed('p');
        is("undo()", x.undo(), -3);
        is("image()", x.image(), 3);
        long margin = x.told(0);
        x.trade(0, 0, 0, 0, -10);
        x.still(1);
        x.unset(0);
        x.see(-1, 0);
        x.plan(-1, 0);
        x.ground(3, 5, 1);
        x.item(0, 1, 77);
        x.feed('0');
        is("undo()", x.undo(), 3);
        is("told(0)", x.told(0), margin);
        long[] counts = {3, 2, 1, 1, 1, 2, 0};
        for (int what = 0; what < 7; what++) {
            is("count(" + what + ")", x.count(what), counts[what]);
        }
        is("groundOf(3, 5)", x.groundOf(3, 5), 9);
        is("peek(0, 1)", x.peek(0, 1), 77);
        is("legOf(0, 4)", x.legOf(0, 4), 10);
        is("used(0, 0)", x.used(0, 0), 3);
        x.trade(0, 0, 0, 0, -10);
        is("undo() again", x.undo(), 3);
        is("legOf(0, 4)", x.legOf(0, 4), 10);
        x.trade(0, 0, 0, 0, -10);
        is("image() anew", x.image(), 2);
        x.trade(0, 0, 0, 0, 1);
        is("undo()", x.undo(), 2);
        is("find", x.find(0, 0, 0, 0), -5);
    }

    private static void counts() {
        due.part("promise 33");
        LegHedge x = threeGrounds();
        x.offset(0, 1, 1, 1, 0, 50);
        x.see(1, 1);
        x.see(1, 2);
        x.plan(0, 1);
        x.feed(1);
        x.feed(2);
        x.trade(0, 1, 0, 100, 1);
        x.trade(3, 2, 0, 100, 1);
        x.trade(0, 1, 1, 100, 1);
        x.trade(0, 4, 1, 99, 1);
        long[] want = {7, 2, 1, 2, 1, 2, 3};
        for (int what = 0; what < 7; what++) {
            is("count(" + what + ")", x.count(what), want[what]);
        }
        is("count(7)", x.count(7), -2);
        is("count(-1)", x.count(-1), -2);
        is("count(LOW)", x.count(LOW), -2);
        x.trade(0, 1, 0, 100, -1);
        is("count(6)", x.count(6), 3);
        x.trade(3, 2, 0, 100, -1);
        is("count(6)", x.count(6), 2);
        // a FUTURE has STRIKE 0: it is none of them, a CALL of STRIKE 0 is
        x.trade(0, 1, 0, 0, 1);
        is("count(6)", x.count(6), 3);
    }

    private static void tapes() {
        due.part("promises 34, 35, 36");
        LegHedge x = new LegHedge();
        is("tape(6, 0, 1)", x.tape(6, 0, 1), -1);
        is("tape(-1, 9, 1)", x.tape(-1, 9, 1), -1);
        is("tape(0, 5, 1)", x.tape(0, 5, 1), -2);
        is("tape(0, -2, -1)", x.tape(0, -2, -1), -2);
        is("tape(0, 0, 61)", x.tape(0, 0, 61), -2);
        is("tape(0, 0, -1)", x.tape(0, 0, -1), -14);
        is("tape(0, 0, LOW)", x.tape(0, 0, LOW), -14);
        is("peek(0, 0)", x.peek(0, 0), NO);
        long v = 0x123456789ABCDEF0L;
        long[] cut = {(byte) v, (short) v, (int) v, v, 1};
        for (int sort = 0; sort < 5; sort++) {
            is("tape", x.tape(sort, sort, sort == 0 ? 60 : 2), 1);
            is("peek", x.peek(sort, 1), 0);
            is("item", x.item(sort, 1, v), 1);
            is("peek", x.peek(sort, 1), cut[sort]);
            is("item", x.item(sort, 0, 128), 1);
            is("peek", x.peek(sort, 0), sort == 0 ? -128 : sort == 4 ? 1 : 128);
            is("item", x.item(sort, 0, 1L << 40), 1);
            is("peek", x.peek(sort, 0), sort == 3 ? 1L << 40 : sort == 4 ? 1 : 0);
        }
        is("peek(0, 59)", x.peek(0, 59), 0);
        is("peek(0, 60)", x.peek(0, 60), NO);
        is("item(0, 60, 1)", x.item(0, 60, 1), -13);
        is("item(0, -1, 1)", x.item(0, -1, 1), -13);
        is("item(1, HIGH, 1)", x.item(1, HIGH, 1), -13);
        is("item(1, LOW, 1)", x.item(1, LOW, 1), -13);
        is("item(6, 0, 1)", x.item(6, 0, 1), -1);
        is("item(-1, 0, 1)", x.item(-1, 0, 1), -1);
        is("item(5, 0, 1)", x.item(5, 0, 1), -11);
        is("item(5, -1, 1)", x.item(5, -1, 1), -11);
        is("peek(5, 0)", x.peek(5, 0), NO);
        is("peek(6, 0)", x.peek(6, 0), NO);
        is("peek(-1, 0)", x.peek(-1, 0), NO);
        is("peek(1, -1)", x.peek(1, -1), NO);
        is("a false item", x.item(4, 1, 0), 1);
        is("peek(4, 1)", x.peek(4, 1), 0);
        is("tape(1, -1, LOW)", x.tape(1, -1, LOW), 1);
        is("item(1, 0, 1)", x.item(1, 0, 1), -11);
        is("tape(3, 3, 2)", x.tape(3, 3, 2), 1);
        is("all 0 again", x.peek(3, 1), 0);
        is("tape(2, 2, 0)", x.tape(2, 2, 0), 1);
        is("item(2, 0, 1)", x.item(2, 0, 1), -13);
        is("tape(2, -1, 61)", x.tape(2, -1, 61), 1);
        is("tape(2, 2, 60)", x.tape(2, 2, 60), 1);
        is("peek(2, 59)", x.peek(2, 59), 0);
    }

    private static void shifts() {
        due.part("promise 37");
        LegHedge x = new LegHedge();
        x.tape(0, 2, 5);
        x.tape(1, 2, 3);
        x.tape(2, 3, 5);
        for (int i = 0; i < 5; i++) {
            x.item(0, i, i + 1);
        }
        is("shift", x.shift(0, 1, 1, 0, 3), 3);
        is("peek(1, 0)", x.peek(1, 0), 2);
        is("peek(1, 2)", x.peek(1, 2), 4);
        is("onto itself, up", x.shift(0, 0, 0, 1, 4), 4);
        long[] up = {1, 1, 2, 3, 4};
        for (int i = 0; i < 5; i++) {
            is("peek(0, " + i + ")", x.peek(0, i), up[i]);
        }
        is("onto itself, down", x.shift(0, 2, 0, 0, 3), 3);
        long[] down = {2, 3, 4, 3, 4};
        for (int i = 0; i < 5; i++) {
            is("peek(0, " + i + ")", x.peek(0, i), down[i]);
        }
        is("none", x.shift(0, 5, 1, 3, 0), 0);
        is("none beyond the end", x.shift(0, 6, 1, 0, 0), -13);
        is("none beyond the other end", x.shift(0, 0, 1, 4, 0), -13);
        is("beyond the end", x.shift(0, 3, 1, 0, 3), -13);
        is("beyond the other end", x.shift(0, 0, 1, 1, 3), -13);
        is("n -1", x.shift(0, 0, 1, 0, -1), -13);
        is("i -1", x.shift(0, -1, 1, 0, 1), -13);
        is("j -1", x.shift(0, 0, 1, -1, 1), -13);
        is("HIGH", x.shift(0, HIGH, 1, HIGH, HIGH), -13);
        is("HIGH", x.shift(0, 1, 1, 1, HIGH), -13);
        is("LOW", x.shift(0, LOW, 1, 0, LOW), -13);
        is("unlike sorts", x.shift(0, -1, 2, 0, 1), -12);
        is("nothing there", x.shift(0, 0, 3, 0, 1), -11);
        is("nothing there", x.shift(3, -1, 0, 0, 1), -11);
        is("no tape", x.shift(6, 0, 3, 0, 1), -1);
        is("no tape", x.shift(3, 0, -1, 0, 1), -1);
        is("peek(0, 0)", x.peek(0, 0), 2);
    }
}
