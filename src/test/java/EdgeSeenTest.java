/** Promises 24 to 27 at their edges: what is SEEN, the PLAN. */
public final class EdgeSeenTest {
    private static final int LOW = Edge.LOW, HIGH = Edge.HIGH, NONE = Edge.NONE, BAD = Edge.BAD, FULL = Edge.FULL;
    private static final long NO = Edge.NO;
    private static final int FUTURE = 0, CALL = 1, PUT = 2, BOTH = 4;
    private static final int PRICES = 0, UNREST = 1, LEG = 2, MOVE = 3;
    private static final Edge edge = new Edge();

    private EdgeSeenTest() {
    }

    public static void main(String[] args) {
        seenTaken();
        seenRefused();
        seenScaled();
        fitsByFloors();
        fitsAllSeen();
        fitsByOtherThanFloors();
        fitsOver();
        fitsRefused();
        planTaken();
        planRefused();
        planOfPrices();
        planOfUnrest();
        planOfLegs();
        planOfMoves();
        endsOver();
        edge.end();
    }

    private static void is(String call, long got, long want) {
        edge.is(call, got, want);
    }

    private static LegHedge fullSeen() {
        LegHedge x = Look.rich();
        for (int i = 1; i < 4; i++) {
            x.see(100, (int) x.told(0));
        }
        return x;
    }

    private static LegHedge fullPlan() {
        LegHedge x = Look.rich();
        x.plan(MOVE, 1);
        x.plan(UNREST, 3);
        for (int i = 4; i < 8; i++) {
            x.plan(PRICES, i);
        }
        return x;
    }

    private static void seenTaken() {
        edge.part("promise 24: least and greatest, four");
        LegHedge x = new LegHedge();
        is("WEIGHT 1, MARGIN 0", x.see(1, 0), 1);
        is("WEIGHT 300, MARGIN HIGH", x.see(300, HIGH), 2);
        is("rows alike", x.see(300, HIGH), 3);
        is("a fourth", x.see(299, 1), 4);
        is("count(3)", x.count(3), 4);
        is("a fifth", x.see(1, 0), FULL);
        is("count(3)", x.count(3), 4);
        is("WEIGHT -1", x.see(-1, LOW), 0);
        is("count(3)", x.count(3), 0);
        is("WEIGHT -1 of none", x.see(-1, HIGH), 0);
        is("one anew", x.see(100, 0), 1);
        is("it alone is so", x.fits(0), 10);
    }

    private static void seenRefused() {
        edge.part("promise 24: BAD, FULL");
        int[] noWeight = {0, 301, -2, LOW, HIGH};
        for (int weight : noWeight) {
            edge.refused("see(" + weight + ", 5)", BAD, x -> x.see(weight, 5));
            edge.same("BAD ahead of FULL", EdgeSeenTest::fullSeen, BAD, x -> x.see(weight, 5));
        }
        int[] noMargin = {-1, LOW};
        for (int margin : noMargin) {
            edge.refused("see(100, " + margin + ")", BAD, x -> x.see(100, margin));
            edge.same("BAD ahead of FULL", EdgeSeenTest::fullSeen, BAD, x -> x.see(100, margin));
        }
        edge.same("a fifth", EdgeSeenTest::fullSeen, FULL, x -> x.see(100, 5));
        is("a full one is emptied", fullSeen().see(-1, 5), 0);
    }

    /** A MARGIN of six times what is SHORT by the WEIGHT fits FLOOR 6 alone; if that is none, all of them. */
    private static void sixfold(int quantity, int weight, int scaled) {
        LegHedge x = new LegHedge();
        x.trade(0, CALL, 0, 999, quantity);
        x.see(weight, scaled * 6);
        is(quantity + " by " + weight, x.fits(1), scaled == 0 ? 0 : 6);
        is(quantity + " by " + weight, x.fits(0), scaled == 0 ? 10 : 1);
        is("QUANTITY as it was", x.legOf(0, 4), quantity);
    }

    private static void seenScaled() {
        edge.part("promise 25: so many hundredths of each QUANTITY, exactly, cut towards 0; none at 0");
        int[] quantity = {-3, -3, -3, -3, -1, -1, -199, -200, -100, -7, -33, -1000000};
        int[] weight = {100, 99, 50, 34, 100, 300, 1, 1, 299, 150, 3, 300};
        int[] scaled = {3, 2, 1, 1, 1, 3, 1, 2, 299, 10, 0, 3000000};
        for (int i = 0; i < quantity.length; i++) {
            sixfold(quantity[i], weight[i], scaled[i]);
        }
        LegHedge x = new LegHedge();
        x.move(-10, 0, 100);
        x.trade(0, FUTURE, 0, 0, 7);
        x.trade(0, FUTURE, 1, 0, -2);
        x.ground(0, 4, 0);
        // 3 long and 1 short
        is("see", x.see(50, 20), 1);
        is("each LEG is cut by itself", x.fits(0), 10);
        x.see(-1, 0);
        is("see", x.see(49, 30), 1);
        is("a LEG that is none", x.fits(0), 10);
        is("LEGS as they were", x.told(6), 2);
        is("MARGIN as it was", x.told(0), 50);
    }

    private static void fitsByFloors() {
        edge.part("promise 25: of FLOORS 0 .. 9 how many, the least");
        for (int floor = -1; floor <= 11; floor++) {
            LegHedge x = new LegHedge();
            x.ground(0, 5, 77);
            x.trade(0, CALL, 0, 999, -2);
            x.trade(4, PUT, 0, 999, -5);
            x.see(100, Math.max(7 * floor, 0) + (floor < 0 ? 1 : 0));
            boolean fits = floor >= 0 && floor <= 9;
            is("FLOOR " + floor, x.fits(0), fits ? 1 : 0);
            is("FLOOR " + floor, x.fits(1), fits ? floor : Edge.NOT_THERE);
            is("FLOOR of 0 as it was", x.groundOf(0, 5), 77);
            is("FLOOR of 4 as it was", x.groundOf(4, 5), 1);
            is("MARGIN as it was", x.told(0), 154 + 5);
        }
        LegHedge y = new LegHedge();
        is("nothing SEEN: all ten", y.fits(0), 10);
        is("nothing SEEN: the least is 0", y.fits(1), 0);
        y.trade(0, CALL, 0, 999, -2);
        is("nothing SEEN: all ten", y.fits(0), 10);
        y.see(100, 1);
        is("none", y.fits(0), 0);
        is("none", y.fits(1), -5);
    }

    private static void fitsAllSeen() {
        edge.part("promise 25: by which all SEEN are so");
        LegHedge x = new LegHedge();
        x.move(-10, 0, 100);
        x.trade(0, FUTURE, 0, 0, 3);
        x.trade(1, CALL, 0, 999, -6);
        x.see(100, 30);
        is("30 by FLOORS 0 .. 5", x.fits(0), 6);
        is("30 by FLOORS 0 .. 5", x.fits(1), 0);
        x.see(-1, 0);
        x.see(100, 48);
        is("48 by FLOOR 8", x.fits(1), 8);
        x.see(50, 24);
        is("24 by FLOOR 8", x.fits(1), 8);
        x.see(200, 96);
        is("96 by FLOOR 8", x.fits(1), 8);
        x.see(300, 144);
        is("144 by FLOOR 8", x.fits(0), 1);
        x.see(-1, 0);
        x.see(100, 48);
        x.see(50, 24);
        x.see(200, 96);
        x.see(300, 143);
        is("the last is not so", x.fits(0), 0);
        x.see(-1, 0);
        x.see(100, 47);
        x.see(50, 24);
        is("the first is not so", x.fits(1), -5);
        x.see(-1, 0);
        x.see(100, 48);
        x.see(50, 27);
        is("each by another FLOOR", x.fits(0), 0);
    }

    private static void fitsByOtherThanFloors() {
        edge.part("promise 25: MARGIN is the greatest of three, by FLOOR too");
        LegHedge x = new LegHedge();
        x.move(10, 0, 100);
        x.move(-10, 0, 100);
        x.trade(0, FUTURE, 0, 0, 10);
        x.trade(1, FUTURE, 0, 0, 10);
        x.offset(0, 1, 1, 1, 1, 100);
        x.trade(2, CALL, 0, 999, -100);
        x.see(100, 200);
        is("WORST 200 by FLOORS 0, 1, 2", x.fits(0), 3);
        x.see(200, 400);
        is("WORST 400 by FLOORS 0, 1, 2", x.fits(0), 3);
        x.see(-1, 0);
        // 1 of both is left, DELTA 10: WORST 20, no SHORT but 10
        x.see(10, 20);
        is("WORST 20 by FLOORS 0, 1, 2", x.fits(0), 3);
        is("WORST 20 by FLOORS 0, 1, 2", x.fits(1), 0);
        x.see(9, 0);
        is("9 SHORT by FLOOR 0 alone, but 20 by 10", x.fits(0), 1);
        x.see(8, 40);
        is("two unlike", x.fits(1), -5);
    }

    private static void fitsOver() {
        edge.part("promise 25: what would be OVER doesn't fit");
        LegHedge x = new LegHedge();
        for (int i = 0; i < 119; i++) {
            x.trade(0, BOTH, 0, 100, -1000000);
        }
        x.trade(0, BOTH, 0, 100, -304647);
        x.see(200, 119304647 * 2 * 9);
        is("2147483646 by FLOOR 9", x.fits(1), 9);
        is("2147483646 by FLOOR 9", x.fits(0), 1);
        x.see(-1, 0);
        x.see(201, (int) (239802340L * 9));
        is("2158221060 by FLOOR 9 is none", x.fits(0), 10);
        is("one below 0 isn't SEEN", x.count(3), 0);
        x.see(201, 0);
        is("0 by FLOOR 0 alone, not by 9, which is OVER", x.fits(0), 1);
        x.see(-1, 0);
        x.see(201, (int) (239802340L * 8));
        is("by FLOOR 8", x.fits(1), 8);
        x.trade(1, FUTURE, 0, 0, 1);
        x.ground(1, 2, 1000000);
        x.ground(0, 3, 0);
        is("1000000 times 21 times 100", x.move(-21, 0, 100), 0);
        x.see(-1, 0);
        x.see(100, 119304647);
        is("as it is", x.fits(1), 1);
        x.see(-1, 0);
        x.see(200, 119304647 * 2);
        is("twice 1000000 times 21 times 100 is OVER by all FLOORS", x.fits(0), 0);
        is("twice 1000000 times 21 times 100 is OVER by all FLOORS", x.fits(1), -5);
        x.see(-1, 0);
        x.see(199, 237416247);
        is("199 hundredths of 1 are 1", x.fits(1), 1);
    }

    private static void fitsRefused() {
        edge.part("promise 25: NONE");
        int[] noWhat = {-1, 2, LOW, HIGH};
        for (int what : noWhat) {
            edge.refused("fits(" + what + ")", NONE, x -> x.fits(what));
            is("fits(" + what + ") with nothing SEEN", new LegHedge().fits(what), NONE);
        }
        edge.refused("fits(0)", 4, x -> x.fits(0) > 0 ? 4 : 0);
    }

    private static void planTaken() {
        edge.part("promise 26: least and greatest, eight");
        LegHedge x = new LegHedge();
        x.move(1, 0, 1);
        x.trade(0, FUTURE, 0, 0, 1);
        is("PRICES -999", x.plan(PRICES, -999), 1);
        is("PRICES 999", x.plan(PRICES, 999), 2);
        is("UNREST -999", x.plan(UNREST, -999), 3);
        is("UNREST 999", x.plan(UNREST, 999), 4);
        is("LEG 0", x.plan(LEG, 0), 5);
        is("MOVE 0", x.plan(MOVE, 0), 6);
        is("MOVE 0 again", x.plan(MOVE, 0), 7);
        is("0 more", x.plan(PRICES, 0), 8);
        is("count(4)", x.count(4), 8);
        is("a ninth", x.plan(PRICES, 0), FULL);
        is("count(4)", x.count(4), 8);
        is("what -1", x.plan(-1, HIGH), 0);
        is("count(4)", x.count(4), 0);
        is("what -1 of none", x.plan(-1, LOW), 0);
        is("the empty PLAN", x.ends(), x.told(0));
        is("one anew", x.plan(PRICES, 1), 1);
    }

    private static void planRefused() {
        edge.part("promise 26: NONE, BAD, FULL");
        int[] noWhat = {-2, 4, LOW, HIGH};
        for (int what : noWhat) {
            edge.refused("plan(" + what + ", 0)", NONE, x -> x.plan(what, 0));
            edge.refused("plan(" + what + ", 1000)", NONE, x -> x.plan(what, 1000));
            edge.same("NONE ahead of FULL", EdgeSeenTest::fullPlan, NONE, x -> x.plan(what, 0));
        }
        int[] noLeg = {-1, 6, 24, LOW, HIGH};
        for (int leg : noLeg) {
            edge.refused("plan(2, " + leg + ")", NONE, x -> x.plan(LEG, leg));
            edge.same("NONE ahead of FULL", EdgeSeenTest::fullPlan, NONE, x -> x.plan(LEG, leg));
        }
        int[] noMove = {-1, 2, 8, LOW, HIGH};
        for (int move : noMove) {
            edge.refused("plan(3, " + move + ")", NONE, x -> x.plan(MOVE, move));
            edge.same("NONE ahead of FULL", EdgeSeenTest::fullPlan, NONE, x -> x.plan(MOVE, move));
        }
        int[] noMore = {-1000, 1000, LOW, HIGH};
        for (int v : noMore) {
            edge.refused("plan(0, " + v + ")", BAD, x -> x.plan(PRICES, v));
            edge.refused("plan(1, " + v + ")", BAD, x -> x.plan(UNREST, v));
            edge.same("BAD ahead of FULL", EdgeSeenTest::fullPlan, BAD, x -> x.plan(PRICES, v));
            edge.same("BAD ahead of FULL", EdgeSeenTest::fullPlan, BAD, x -> x.plan(UNREST, v));
        }
        edge.same("a ninth", EdgeSeenTest::fullPlan, FULL, x -> x.plan(PRICES, 1));
        edge.same("a ninth", EdgeSeenTest::fullPlan, FULL, x -> x.plan(LEG, 5));
        edge.same("a ninth", EdgeSeenTest::fullPlan, FULL, x -> x.plan(MOVE, 1));
        is("the last LEG", Look.rich().plan(LEG, 5), 3);
        is("the last MOVE", Look.rich().plan(MOVE, 1), 3);
        is("a full one is emptied", fullPlan().plan(-1, 5), 0);
        is("MOVES where there are none", new LegHedge().plan(MOVE, 0), NONE);
        is("LEGS where there are none", new LegHedge().plan(LEG, 0), NONE);
    }

    /** MARGIN behind PRICES of all GROUNDS go so: a FUTURE that falls to 1 loses PRICE less 1. */
    private static long fallsBy(int... more) {
        LegHedge x = new LegHedge();
        x.move(-99, 0, 100);
        for (int g = 0; g < 5; g++) {
            x.ground(g, 3, g == 2 ? 99 : 0);
            x.trade(g, FUTURE, 0, 0, 1);
            x.ground(g, 0, g == 2 ? 500 : 999);
        }
        for (int v : more) {
            x.plan(PRICES, v);
        }
        long ends = x.ends();
        is("PRICE as it was", x.groundOf(2, 0), 500);
        is("MARGIN as it was", x.told(0), 499);
        return ends;
    }

    private static void planOfPrices() {
        edge.part("promise 27: PRICES v more, 1 at least, 999 at most");
        is("as it is", fallsBy(), 499);
        is("1 more", fallsBy(1), 500);
        is("1 less", fallsBy(-1), 498);
        is("1 more twice", fallsBy(1, 1), 501);
        is("at 999", fallsBy(481), 980);
        is("498 less: at 2", fallsBy(-498), 1);
        is("499 less: at 1", fallsBy(-499), 0);
        is("500 less: at 1", fallsBy(-500), 0);
        is("then 7 more", fallsBy(-500, 7), 7);
        is("then 7 more", fallsBy(-499, 7), 7);
        is("999 less, then 9", fallsBy(-999, 9), 9);
        // from 999 on RANGE 99 takes 980 of it: 19 are left
        is("at 998", fallsBy(498), 980);
        is("at 999, then 20 less", fallsBy(499, -20), 978);
        is("999 at most, then 20 less", fallsBy(500, -20), 978);
        is("999 more, then 20 less", fallsBy(999, -20), 978);
        LegHedge x = new LegHedge();
        x.move(-99, 0, 100);
        for (int g = 0; g < 5; g++) {
            x.trade(g, FUTURE, 0, 0, 1);
            x.ground(g, 3, 99);
        }
        is("five by 99", x.told(0), 495);
        x.plan(PRICES, 1);
        is("all GROUNDS", x.ends(), 500);
    }

    /** MARGIN behind UNREST goes so: a CALL at its STRIKE by EXPIRY 1 is worth UNREST, and loses 9 of it at most. */
    private static long stirBy(int unrest, int... more) {
        LegHedge x = new LegHedge();
        x.move(0, -9, 100);
        x.trade(3, CALL, 1, 100, 1);
        x.ground(3, 1, unrest);
        for (int v : more) {
            x.plan(UNREST, v);
        }
        long ends = x.ends();
        is("UNREST as it was", x.groundOf(3, 1), unrest);
        return ends;
    }

    private static void planOfUnrest() {
        edge.part("promise 27: UNREST v more, 0 at least, 99 at most");
        is("as it is", stirBy(5), 5);
        is("1 more", stirBy(5, 1), 6);
        is("3 less", stirBy(5, -3), 2);
        is("5 less: at 0", stirBy(5, -5), 0);
        is("6 less: at 0", stirBy(5, -6), 0);
        is("then 4 more", stirBy(5, -6, 4), 4);
        is("999 less, then 4 more", stirBy(5, -999, 4), 4);
        is("94 more, then 95 less", stirBy(5, 94, -95), 4);
        is("95 more, then 95 less", stirBy(5, 95, -95), 4);
        is("999 more, then 95 less", stirBy(5, 999, -95), 4);
        is("93 less than 99", stirBy(99, -93), 6);
        LegHedge x = new LegHedge();
        x.move(0, -9, 100);
        for (int g = 0; g < 5; g++) {
            x.ground(g, 1, 0);
            x.trade(g, CALL, 1, 100, 1);
        }
        x.plan(UNREST, 2);
        is("all GROUNDS", x.ends(), 10);
    }

    private static LegHedge fourLegs() {
        LegHedge x = new LegHedge();
        x.move(-10, 0, 100);
        for (int leg = 0; leg < 4; leg++) {
            x.trade(leg, FUTURE, 0, 0, 1 << leg);
        }
        return x;
    }

    private static void planOfLegs() {
        edge.part("promise 27: LEG v is none; LEGS keep their numbers meanwhile; none already");
        for (int first = 0; first < 4; first++) {
            for (int second = 0; second < 4; second++) {
                LegHedge x = fourLegs();
                x.plan(LEG, first);
                is("LEG " + first, x.ends(), 150 - (10 << first));
                x.plan(LEG, second);
                long left = first == second ? 150 - (10 << first) : 150 - (10 << first) - (10 << second);
                is("LEGS " + first + " and " + second, x.ends(), left);
                is("asked again", x.ends(), left);
                is("LEGS as they were", x.told(6), 4);
                is("MARGIN as it was", x.told(0), 150);
            }
        }
        LegHedge y = fourLegs();
        for (int leg = 0; leg < 4; leg++) {
            y.plan(LEG, leg);
        }
        is("all LEGS", y.ends(), 0);
        LegHedge z = fourLegs();
        z.plan(LEG, 3);
        z.plan(LEG, 1);
        z.trade(0, FUTURE, 0, 0, -1);
        is("LEG 3 isn't there any more, LEG 1 was 2", z.ends(), 100);
        z.trade(1, FUTURE, 0, 0, -2);
        is("LEG 1 was 3", z.ends(), 40);
        z.trade(2, FUTURE, 0, 0, -4);
        is("neither is there any more", z.ends(), 80);
        is("count(4)", z.count(4), 2);
        z.trade(0, FUTURE, 0, 0, 5);
        is("LEG 1 is another one", z.ends(), 80);
        LegHedge w = fourLegs();
        w.move(-19, 0, 100);
        w.plan(LEG, 1);
        for (int leg = 3; leg >= 1; leg--) {
            w.trade(leg, FUTURE, 0, 0, -(1 << leg));
        }
        is("LEG 1 isn't there any more, MOVE 1 isn't meant", w.ends(), 19);
        w.still(0);
        is("nor MOVE 0", w.ends(), 19);
        w.plan(-1, 0);
        w.move(-8, 0, 100);
        w.plan(MOVE, 1);
        is("LEG 1 isn't meant by a MOVE", w.ends(), 19);
        w.trade(1, FUTURE, 0, 0, 1);
        is("LEG 1 isn't meant by a MOVE", w.ends(), 38);
    }

    private static void planOfMoves() {
        edge.part("promise 27: MOVE v is none; MOVES keep their numbers meanwhile; none already");
        for (int first = 0; first < 4; first++) {
            for (int second = 0; second < 4; second++) {
                LegHedge x = new LegHedge();
                x.trade(0, FUTURE, 0, 0, 1);
                x.trade(0, FUTURE, 1, 0, 1);
                for (int move = 0; move < 4; move++) {
                    x.move(-10 - move, 0, 100);
                }
                x.plan(MOVE, first);
                x.plan(MOVE, second);
                int greatest = 3;
                while (greatest == first || greatest == second) {
                    greatest--;
                }
                is("MOVES " + first + " and " + second, x.ends(), 2 * (10 + greatest));
                is("MOVES as they were", x.told(7), 4);
                is("MARGIN as it was", x.told(0), 26);
                x.plan(LEG, 0);
                is("and a LEG", x.ends(), 10 + greatest);
            }
        }
        LegHedge y = new LegHedge();
        y.trade(0, FUTURE, 0, 0, 1);
        y.move(-10, 0, 100);
        y.move(-20, 0, 100);
        y.plan(MOVE, 1);
        is("20 goes", y.ends(), 10);
        y.trade(0, FUTURE, 0, 0, -2);
        is("one that goes is worth nothing below 0 either", y.ends(), 0);
        y.trade(0, FUTURE, 0, 0, 2);
        y.still(0);
        is("MOVE 1 isn't there any more", y.ends(), 20);
        y.plan(MOVE, 0);
        is("all MOVES", y.ends(), 0);
        y.trade(0, FUTURE, 1, 0, -1);
        is("CHARGES stay", y.ends(), 2);
    }

    private static void endsOver() {
        edge.part("promise 27: NO if something would be OVER behind all of it");
        LegHedge x = new LegHedge();
        x.move(-99, 0, 100);
        x.ground(0, 3, 99);
        x.trade(0, FUTURE, 0, 0, 1);
        is("SIZE", x.ground(0, 2, 216917), 1);
        is("MARGIN", x.told(0), 216917 * 99);
        x.plan(PRICES, 1);
        is("2169170000 is OVER", x.ends(), NO);
        is("asked again", x.ends(), NO);
        is("MARGIN as it was", x.told(0), 216917 * 99);
        x.plan(PRICES, -2);
        is("behind all of it nothing is", x.ends(), 216917 * 98);
        x.plan(PRICES, 2);
        x.plan(MOVE, 0);
        is("without the MOVE nothing is", x.ends(), 0);
        x.plan(-1, 0);
        x.plan(PRICES, 1);
        x.plan(LEG, 0);
        is("without the LEG nothing is", x.ends(), 0);
        LegHedge z = new LegHedge();
        z.ground(0, 0, 98);
        z.ground(0, 2, 1000000);
        z.ground(0, 3, 99);
        z.trade(0, FUTURE, 0, 0, 22);
        is("22000000 times 97", z.move(-99, 0, 1), 0);
        z.plan(PRICES, 1);
        is("22000000 times 98 is OVER", z.ends(), NO);
        z.plan(MOVE, 0);
        is("by a MOVE that is none nothing is", z.ends(), 0);
        edge.refused("ends()", Look.rich().ends(), y -> y.ends());
    }
}
