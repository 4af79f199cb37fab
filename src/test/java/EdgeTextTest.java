/** Promises 28 and 29 at their edges: THE TEXT, its CLAUSES, its FAULTS. */
public final class EdgeTextTest {
    private static final int LOW = Edge.LOW, HIGH = Edge.HIGH, BAD = Edge.BAD, FULL = Edge.FULL;
    private static final String DIGITS = "0123456789", LETTERS = "tmop";
    private static final Edge edge = new Edge();

    private EdgeTextTest() {
    }

    public static void main(String[] args) {
        feeds();
        feedsRefused();
        everySignBehindEveryStart();
        everyEnd();
        clausesOneToTen();
        hundredSigns();
        tradesRead();
        movesRead();
        offsetsRead();
        pricesRead();
        oneBehindTheOther();
        nothingIsDoneByAFault();
        edge.end();
    }

    private static void is(String call, long got, long want) {
        edge.is(call, got, want);
    }

    private static LegHedge fullText() {
        LegHedge x = new LegHedge();
        x.image();
        Look.feed(x, "p0.1;".repeat(9) + "t010.100.-99;t010.100.-99;t010.100.-99;t010.100.-99;p0.");
        return x;
    }

    private static void feeds() {
        edge.part("promise 28: a sign comes behind THE TEXT's");
        LegHedge x = new LegHedge();
        int[] signs = {0, 127, 59, 0, 1, 126};
        for (int i = 0; i < signs.length; i++) {
            is("feed(" + signs[i] + ")", x.feed(signs[i]), i + 1);
            is("count(5)", x.count(5), i + 1);
        }
        for (int i = 7; i <= 100; i++) {
            is("feed(48)", x.feed(48), i);
        }
        is("a 101st", x.feed(48), FULL);
        is("a 101st that is BAD", x.feed(128), BAD);
        is("count(5)", x.count(5), 100);
        is("read()", x.read(), -10);
        is("THE TEXT is empty then", x.count(5), 0);
        is("feed(112)", x.feed(112), 1);
    }

    private static void feedsRefused() {
        edge.part("promise 28: BAD, FULL");
        int[] noSign = {-1, 128, 256 + 112, LOW, HIGH};
        for (int sign : noSign) {
            edge.refused("feed(" + sign + ")", BAD, x -> x.feed(sign));
        }
        is("100 signs", fullText().count(5), 100);
        edge.same("a 101st", EdgeTextTest::fullText, FULL, x -> x.feed('1'));
        edge.same("a 101st, BAD ahead of FULL", EdgeTextTest::fullText, BAD, x -> x.feed(128));
    }

    /** What may stand behind a start: signs by which THE TEXT isn't whole yet, and those by which it is. */
    private static final String[][] STARTS = {
        {"", LETTERS, ""},
        {"t", DIGITS, ""}, {"t9", DIGITS, ""}, {"t99", DIGITS, ""}, {"t999", ".", ""}, {"t010.", DIGITS, ""},
        {"t010.1", DIGITS + ".", ""}, {"t010.12", DIGITS + ".", ""}, {"t010.123", ".", ""},
        {"t010.1.", "-", DIGITS}, {"t010.123.", "-", DIGITS}, {"t010.1.-", "", DIGITS},
        {"t010.1.1", ";", DIGITS}, {"t010.1.12", ";", DIGITS}, {"t010.1.123", ";", ""},
        {"t010.1.-1", ";", DIGITS}, {"t010.1.-12", ";", DIGITS}, {"t010.1.-123", ";", ""},
        {"m", ".", ""}, {"m.", DIGITS + "-", ""}, {"m.-", DIGITS, ""}, {"m.1", DIGITS + ".", ""},
        {"m.12", ".", ""}, {"m.-1", DIGITS + ".", ""}, {"m.-12", ".", ""}, {"m.1.", DIGITS + "-", ""},
        {"m.1.-", DIGITS, ""}, {"m.1.1", ".", ""}, {"m.1.-1", ".", ""}, {"m.-12.-1.", "", DIGITS},
        {"m.1.1.", "", DIGITS}, {"m.1.1.1", ";", DIGITS}, {"m.1.1.12", ";", DIGITS}, {"m.1.1.123", ";", ""},
        {"o", DIGITS, ""}, {"o9", DIGITS, ""}, {"o99", DIGITS, ""}, {"o999", DIGITS, ""}, {"o9999", DIGITS, ""},
        {"o99999", ".", ""}, {"o01110.", "", DIGITS}, {"o01110.1", ";", DIGITS}, {"o01110.12", ";", DIGITS},
        {"o01110.123", ";", ""},
        {"p", DIGITS, ""}, {"p9", ".", ""}, {"p0.", "", DIGITS}, {"p0.1", ";", DIGITS}, {"p0.12", ";", DIGITS},
        {"p0.123", ";", ""},
        {"p0.1;", LETTERS, ""}, {"p0.1;p", DIGITS, ""}, {"t010.1.-1;m.1.1.1;o01110.1;", LETTERS, ""},
        {"p0.1;p0.1;p0.1;p0.1;p0.1;p0.1;p0.1;p0.1;p0.1;", LETTERS, ""},
        {"p0.1;p0.1;p0.1;p0.1;p0.1;p0.1;p0.1;p0.1;p0.1;p0.1", "", DIGITS},
        {"p0.1;p0.1;p0.1;p0.1;p0.1;p0.1;p0.1;p0.1;p0.1;p0.123", "", ""}};

    private static void everySignBehindEveryStart() {
        edge.part("promise 29: the FAULT is the place of the first byte with which none begins so");
        for (String[] start : STARTS) {
            for (char sign = 0; sign < 128; sign++) {
                LegHedge x = new LegHedge();
                Look.feed(x, start[0]);
                x.feed(sign);
                int got = x.read();
                String call = "read() of " + start[0] + " and " + (int) sign;
                if (start[1].indexOf(sign) >= 0) {
                    is(call + ": it ends too early", got, -10 - start[0].length() - 1);
                } else if (start[2].indexOf(sign) >= 0) {
                    is(call + ": no FAULT", got >= 0 ? 1 : 0, 1);
                } else {
                    is(call + ": it doesn't go on so", got, -10 - start[0].length());
                }
                is("THE TEXT is empty then", x.count(5), 0);
                LegHedge y = new LegHedge();
                Look.feed(y, start[0]);
                y.feed(sign);
                Look.feed(y, "0.1;x;p0.1");
                if (start[1].indexOf(sign) < 0 && start[2].indexOf(sign) < 0) {
                    is(call + " and more: the first such byte", y.read(), -10 - start[0].length());
                }
            }
        }
    }

    private static void everyEnd() {
        edge.part("promise 29: the end of THE TEXT, if it ends too early");
        String whole = "t010.123.-456;m.-12.-3.100;o01119.100;p0.999";
        String wholeHeads = ",11,12,13,24,25,26,35,36,37,42,43,44,";
        for (int n = 0; n <= whole.length(); n++) {
            LegHedge x = new LegHedge();
            int got = Look.read(x, whole.substring(0, n));
            boolean isWhole = wholeHeads.contains("," + n + ",");
            if (!isWhole) {
                is("read() of " + whole.substring(0, n), got, -10 - n);
                is("nothing is done", x.told(6) + x.told(7) + x.told(8), 0);
            } else {
                is("read() of " + whole.substring(0, n), got >= 0 ? 1 : 0, 1);
            }
        }
        is("an empty text", new LegHedge().read(), -10);
    }

    private static void clausesOneToTen() {
        edge.part("promise 29: CLAUSES, 1 to 10, with ; between");
        for (int n = 1; n <= 12; n++) {
            LegHedge x = new LegHedge();
            StringBuilder text = new StringBuilder("p0.1");
            for (int i = 1; i < n; i++) {
                text.append(";p0.").append(i % 9 + 1);
            }
            int want = n <= 10 ? n : -10 - 49;
            is(n + " CLAUSES", Look.read(x, text.toString()), want);
            is("PRICE", x.groundOf(0, 0), n <= 10 ? (n - 1) % 9 + 1 : 100);
        }
        LegHedge x = new LegHedge();
        is("ten and ;", Look.read(x, "p0.1;p0.1;p0.1;p0.1;p0.1;p0.1;p0.1;p0.1;p0.1;p0.1;"), -10 - 49);
        is("none is done", x.groundOf(0, 0), 100);
        is("no ; ahead", Look.read(x, ";p0.1"), -10);
        is("no ; behind", Look.read(x, "p0.1;"), -15);
        is("no two ;", Look.read(x, "p0.1;;p0.1"), -15);
        is("none without ;", Look.read(x, "p0.1p0.1"), -14);
        is("none is done", x.groundOf(0, 0), 100);
    }

    private static void hundredSigns() {
        edge.part("promise 29: of 100 signs");
        LegHedge x = new LegHedge();
        String fits = "t010.100.-999;t010.100.-999;t010.100.-999;t010.100.-999;t010.100.-999;t010.100.-999;m.-9.-9.100;p0.1";
        is("signs", fits.length(), 100);
        is("read()", Look.read(x, fits), 8);
        is("QUANTITY", x.legOf(0, 4), -5994);
        is("PRICE", x.groundOf(0, 0), 1);
        is("ends too early", Look.read(x, fits.substring(0, 84) + "m.-99.-9.100;p0."), -110);
        is("the last doesn't go on so", Look.read(x, fits.substring(0, 99) + ";"), -109);
        is("the last doesn't go on so", Look.read(x, fits.substring(0, 99) + "x"), -109);
        String[] early = {"t010.1.-1;p0.12;", "t010.1.-1;p0.1;t", "t010.1.-1;p0.1;o", "p0.123;t010.1.-1"};
        int[] asked = {-110, -110, -110, 8};
        for (int i = 0; i < early.length; i++) {
            is("100 signs, at the end " + early[i], Look.read(x, fits.substring(0, 84) + early[i]), asked[i]);
        }
        LegHedge y = fullText();
        is("a ; behind ten CLAUSES", y.read(), -10 - (9 * 5 + 12));
        is("count(5)", y.count(5), 0);
        is("x at 0", Look.read(y, "x" + fits.substring(1)), -10);
    }

    private static void tradesRead() {
        edge.part("promise 29: a TRADE; a digit each; STRIKE, Q 1 to 3 digits, Q perhaps -");
        String[] text = {"t010.1.1", "t431.12.12", "t045.999.999", "t123.000.-999", "t232.007.-1", "t000.0.5",
            "t000.000.-05", "t312.100.-000", "t312.100.0", "t312.100.-0", "t510.1.1", "t050.1.1", "t016.1.1",
            "t000.1.1", "t999.999.999"};
        int[] done = {1, 1, 1, 1, 1, 1, 1, 0, 0, 0, 0, 0, 0, 0, 0};
        int[][] leg = {{0, 1, 0, 1, 1}, {4, 3, 1, 12, 12}, {0, 4, 5, 999, 999}, {1, 2, 3, 0, -999},
            {2, 3, 2, 7, -1}, {0, 0, 0, 0, 5}, {0, 0, 0, 0, -5}};
        for (int i = 0; i < text.length; i++) {
            LegHedge x = new LegHedge();
            is("read " + text[i], Look.read(x, text[i]), done[i]);
            is("LEGS of " + text[i], x.told(6), done[i]);
            for (int what = 0; what < 5 && i < leg.length; what++) {
                is("legOf(0, " + what + ") of " + text[i], x.legOf(0, what), leg[i][what]);
            }
        }
        LegHedge x = new LegHedge();
        for (int i = 0; i < 24; i++) {
            x.trade(0, 1, 0, i, 1);
        }
        is("FULL", Look.read(x, "t000.0.1;t010.0.1;t010.1.-1;t000.0.1"), 3);
        is("told(6)", x.told(6), 24);
    }

    private static void movesRead() {
        edge.part("promise 29: a MOVE; UP 1 or 2 digits, STIR a digit, both perhaps -; WEIGHT 1 to 3");
        String[] text = {"m.1.1.1", "m.99.9.100", "m.-99.-9.100", "m.-0.-0.001", "m.00.0.010", "m.05.-5.1",
            "m.-05.5.1", "m.1.1.0", "m.1.1.000", "m.1.1.101", "m.1.1.999"};
        int[] price = {101, 199, 1, 100, 100, 105, 95};
        int[] unrest = {21, 29, 11, 20, 20, 15, 25};
        int[] weight = {1, 100, 100, 1, 10, 1, 1};
        for (int i = 0; i < text.length; i++) {
            LegHedge x = new LegHedge();
            boolean done = i < price.length;
            is("read " + text[i], Look.read(x, text[i]), done ? 1 : 0);
            is("MOVES of " + text[i], x.told(7), done ? 1 : 0);
            if (done) {
                is("price by " + text[i], x.moved(0, 0, 0), price[i]);
                is("unrest by " + text[i], x.moved(0, 0, 1), unrest[i]);
                x.trade(0, 0, 0, 0, 100);
                is("LOSS by " + text[i], x.loss(0, 0), (100L - price[i]) * weight[i]);
            }
        }
        LegHedge x = new LegHedge();
        is("eight of ten", Look.read(x, "m.1.1.1;m.1.1.1;m.1.1.1;m.1.1.1;m.1.1.1;m.1.1.1;m.1.1.1;m.1.1.1;m.1.1.1;m.1.1.1"), 8);
        is("told(7)", x.told(7), 8);
        is("the last one, too", x.moved(0, 7, 0), 101);
    }

    private static void offsetsRead() {
        edge.part("promise 29: an OFFSET; a digit each, RATE 1 to 3 digits");
        String[] text = {"o01110.0", "o10991.100", "o34120.050", "o01111.5", "o00111.5", "o51110.5", "o05110.5",
            "o01010.5", "o01100.5", "o01112.5", "o01110.101", "o01110.999"};
        int[] side = {0, 1, 0, 1};
        for (int i = 0; i < text.length; i++) {
            LegHedge x = new LegHedge();
            is("read " + text[i], Look.read(x, text[i]), i < side.length ? 1 : 0);
            is("OFFSETS of " + text[i], x.told(8), i < side.length ? 1 : 0);
        }
        LegHedge x = new LegHedge();
        x.move(10, 0, 100);
        x.move(-10, 0, 100);
        x.trade(3, 0, 0, 0, 8);
        x.trade(4, 0, 0, 0, -9);
        is("read", Look.read(x, "o34230.050"), 1);
        is("k", x.used(0, 0), 3);
        is("CREDIT", x.used(0, 1), 3 * 50 / 2);
        is("six of seven", Look.read(x, "o34231.1;o34231.1;o34231.1;o34231.1;o34231.1;o34231.1"), 5);
        is("told(8)", x.told(8), 6);
    }

    private static void pricesRead() {
        edge.part("promise 29: a PRICE, 1 to 3 digits");
        String[] text = {"p0.1", "p4.999", "p3.10", "p2.001", "p1.099", "p0.0", "p0.00", "p0.000", "p5.1", "p9.999"};
        int[] ground = {0, 4, 3, 2, 1};
        int[] price = {1, 999, 10, 1, 99};
        for (int i = 0; i < text.length; i++) {
            LegHedge x = new LegHedge();
            boolean done = i < price.length;
            is("read " + text[i], Look.read(x, text[i]), done ? 1 : 0);
            for (int g = 0; g < 5; g++) {
                is("PRICE of " + g, x.groundOf(g, 0), done && g == ground[i] ? price[i] : 100);
            }
        }
    }

    private static void oneBehindTheOther() {
        edge.part("promise 29: they are done one behind the other, those that would be refused aren't");
        LegHedge x = new LegHedge();
        x.ground(0, 2, 1000000);
        // 214 by 1000000 by 10 by WEIGHT 1 fits, 215 doesn't
        is("OVER", Look.read(x, "m.10.0.1;t000.0.214;t000.0.1;m.11.0.1;t000.0.-1;t000.0.1;p9.1;p0.5"), 5);
        is("QUANTITY", x.legOf(0, 4), 214);
        is("MOVES", x.told(7), 1);
        is("PRICE", x.groundOf(0, 0), 5);
        LegHedge y = new LegHedge();
        is("to 0 and anew", Look.read(y, "t000.0.1;t100.0.1;t000.0.-1;t000.0.7"), 4);
        is("behind the other", y.find(0, 0, 0, 0), 1);
        is("all refused", Look.read(y, "p5.1;p6.1"), 0);
        is("nothing of the one before is read", Look.read(y, "p5"), -12);
        is("nothing of the one before is read", Look.read(y, "p"), -11);
        is("nothing of the one before is read", Look.read(y, "p5.1;"), -15);
        is("nothing of the one before is read", Look.read(y, "p0.6"), 1);
        is("asked again, THE TEXT is empty", y.read(), -10);
    }

    private static void nothingIsDoneByAFault() {
        edge.part("promise 29: nothing is done by a FAULT");
        String[] text = {"p0.7;x", "t000.0.1;m.1.1.1;o01110.1;p0.7;", "p0.7;p0.7x", "x", "", "m.1.1.1;t000.0.1 "};
        for (String t : text) {
            LegHedge x = new LegHedge();
            is("read " + t, Look.read(x, t) < -9 ? 1 : 0, 1);
            is("PRICE", x.groundOf(0, 0), 100);
            is("LEGS, MOVES, OFFSETS", x.told(6) + x.told(7) + x.told(8), 0);
            is("THE TEXT is empty", x.count(5), 0);
            is("another one", Look.read(x, "p0.8"), 1);
            is("PRICE", x.groundOf(0, 0), 8);
        }
    }
}
