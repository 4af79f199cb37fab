import java.util.Random;

/** Runs of calls chosen by a seed, each answer held against the Model's. */
public final class ModelTest {
    private static final int RUNS = 120, CALLS = 350;

    private final Due due;
    private final Random dice;
    private final LegHedge x = new LegHedge();
    private final Model y = new Model();
    /** How great the numbers of this run are: what is OVER is met in some runs, seldom in others. */
    private final int mood;

    private ModelTest(Due due, int seed) {
        this.due = due;
        this.dice = new Random(seed);
        this.mood = seed % 6;
    }

    public static void main(String[] args) {
        Due due = new Due();
        for (int seed = 0; seed < RUNS && !due.anyWrong(); seed++) {
            due.part("seed " + seed);
            ModelTest run = new ModelTest(due, seed);
            for (int i = 0; i < CALLS && !due.anyWrong(); i++) {
                run.step();
            }
            run.all();
        }
        due.end();
    }

    private int wild() {
        int[] some = {Integer.MIN_VALUE, Integer.MAX_VALUE, -1, -2, 1000001, 100000, 61, 7};
        return some[dice.nextInt(some.length)];
    }

    /** Mostly a number that is told, now and then the next ones or a wild one. */
    private int of(int least, int most) {
        int luck = dice.nextInt(200);
        if (luck == 0) {
            return wild();
        }
        if (luck < 4) {
            return luck % 2 == 0 ? least - 1 : most + 1;
        }
        return least + (int) ((most - (long) least + 1) * dice.nextDouble());
    }

    private int quantity() {
        switch (mood) {
            case 0:
                return of(-20, 20);
            case 1:
                return of(-400, 400);
            case 2:
                return of(-100000, 100000);
            case 3:
                return dice.nextInt(3) == 0 ? of(-1000000, 1000000) : of(-30, 30);
            case 5:
                return (dice.nextBoolean() ? 1 : -1) * of(400000, 1000000);
            default:
                return of(-3, 3) * 10;
        }
    }

    private int strike(int kind) {
        if (kind == 0) {
            return dice.nextInt(60) == 0 ? 1 : 0;
        }
        if (mood == 5) {
            return of(0, 20);
        }
        return dice.nextInt(4) == 0 ? of(0, 999) : of(90, 110);
    }

    private void step() {
        int luck = dice.nextInt(100);
        if (luck < 30) {
            trade();
        } else if (luck < 45) {
            setting();
        } else if (luck < 62) {
            asking();
        } else if (luck < 75) {
            thinking();
        } else if (luck < 85) {
            tapes();
        } else if (luck < 95) {
            summing();
        } else {
            text();
        }
    }

    private void trade() {
        int g = of(0, 4);
        int kind = dice.nextInt(3) == 0 || (mood == 5 && dice.nextInt(3) == 0) ? 0 : of(0, 4);
        int e = mood == 4 ? of(0, 1) : of(0, 5);
        int k = strike(kind);
        int q = quantity();
        int leg = dice.nextInt(26);
        if (dice.nextInt(5) == 0 && y.legOf(leg, 0) != Model.NO) {
            g = (int) y.legOf(leg, 0);
            kind = (int) y.legOf(leg, 1);
            e = (int) y.legOf(leg, 2);
            k = (int) y.legOf(leg, 3);
            q = dice.nextBoolean() ? (int) -y.legOf(leg, 4) : q;
        }
        String of = "(" + g + ", " + kind + ", " + e + ", " + k + ", " + q + ")";
        due.is("would" + of, x.would(g, kind, e, k, q), y.would(g, kind, e, k, q));
        due.is("trade" + of, x.trade(g, kind, e, k, q), y.trade(g, kind, e, k, q));
        due.is("find" + of, x.find(g, kind, e, k), y.find(g, kind, e, k));
    }

    private void setting() {
        int luck = dice.nextInt(12);
        if (luck < 4) {
            int up = mood == 5 ? of(-12, 12) : of(-99, 99);
            int stir = of(-9, 9);
            int w = mood == 5 ? of(60, 100) : of(1, 100);
            due.is("move", x.move(up, stir, w), y.move(up, stir, w));
        } else if (luck == 4) {
            int m = of(0, 7);
            due.is("still", x.still(m), y.still(m));
        } else if (luck < 8) {
            int a = of(0, 4);
            int b = of(0, 4);
            int pa = of(1, 9);
            int pb = of(1, 9);
            int side = of(0, 1);
            int rate = mood == 5 ? of(50, 100) : of(0, 100);
            due.is("offset", x.offset(a, b, pa, pb, side, rate), y.offset(a, b, pa, pb, side, rate));
        } else if (luck == 8) {
            int o = of(0, 5);
            due.is("unset", x.unset(o), y.unset(o));
        } else {
            int g = of(0, 4);
            int what = of(0, 5);
            int size = mood < 2 ? 50 : mood == 2 ? 20000 : mood == 5 ? 2 : 1000000;
            int[] most = {130, 99, size, mood == 5 ? 15 : 99, 99, 99};
            int v = dice.nextInt(30) == 0 ? wild() : of(0, what >= 0 && what < 6 ? most[what] : 9);
            due.is("ground", x.ground(g, what, v), y.ground(g, what, v));
            due.is("groundOf", x.groundOf(g, what), y.groundOf(g, what));
        }
    }

    private void asking() {
        int leg = of(0, 12);
        int move = of(-1, 7);
        int g = of(0, 4);
        int what = of(0, 10);
        due.is("legOf", x.legOf(leg, what), y.legOf(leg, what));
        due.is("value", x.value(leg, move), y.value(leg, move));
        due.is("taken", x.taken(leg, what), y.taken(leg, what));
        due.is("loss", x.loss(leg, move), y.loss(leg, move));
        due.is("row", x.row(g, move), y.row(g, move));
        due.is("moved", x.moved(g, move, what & 1), y.moved(g, move, what & 1));
        due.is("risk", x.risk(g, what), y.risk(g, what));
        due.is("share", x.share(g, what & 1), y.share(g, what & 1));
        due.is("order", x.order(leg), y.order(leg));
        due.is("used", x.used(leg, what & 1), y.used(leg, what & 1));
        int number = of(0, 20);
        due.is("ordered", x.ordered(number), y.ordered(number));
    }

    private void thinking() {
        int luck = dice.nextInt(20);
        if (luck < 4) {
            int w = of(1, 300);
            int floor = dice.nextInt(10);
            int margin = dice.nextInt(3) == 0 ? of(0, 500) : (int) y.told(0);
            if (dice.nextInt(3) == 0) {
                w = 100;
                for (int g = 0; g < 5; g++) {
                    due.is("ground", x.ground(g, 5, floor), y.ground(g, 5, floor));
                }
            }
            due.is("see", x.see(w, margin), y.see(w, margin));
        } else if (luck == 4) {
            due.is("see", x.see(-1, luck), y.see(-1, luck));
        } else if (luck == 5) {
            int v = wild();
            due.is("plan", x.plan(-1, v), y.plan(-1, v));
        } else if (luck < 12) {
            int what = of(0, 3);
            int v = dice.nextBoolean() ? of(0, 8) : of(-120, 120);
            due.is("plan", x.plan(what, v), y.plan(what, v));
        }
        due.is("fits", x.fits(0), y.fits(0));
        due.is("fits", x.fits(1), y.fits(1));
        due.is("ends", x.ends(), y.ends());
        if (luck == 12) {
            due.is("image", x.image(), y.image());
        } else if (luck == 13 && dice.nextInt(4) == 0) {
            due.is("undo", x.undo(), y.undo());
        } else if (luck == 14) {
            int g = of(0, 4);
            int e = of(0, 5);
            due.is("hedge", x.hedge(g, e), y.hedge(g, e));
        }
    }

    private void tapes() {
        int t = of(0, 5);
        int o = of(0, 5);
        int i = of(0, 12);
        int j = of(0, 12);
        int n = of(0, 12);
        int sort = dice.nextInt(3) == 0 ? of(-1, 4) : 2;
        long v = dice.nextBoolean() ? dice.nextLong() : dice.nextInt(500) - 250;
        switch (dice.nextInt(4)) {
            case 0:
                due.is("tape", x.tape(t, sort, n), y.tape(t, sort, n));
                break;
            case 1:
                due.is("item", x.item(t, i, v), y.item(t, i, v));
                break;
            case 2:
                due.is("shift", x.shift(t, i, o, j, n), y.shift(t, i, o, j, n));
                break;
            default:
                int g = of(0, 4);
                for (int m = 0; m < dice.nextInt(9); m++) {
                    int w = (int) y.row(g, m);
                    due.is("item", x.item(t, m + 1, w), y.item(t, m + 1, w));
                }
                due.is("judge", x.judge(g, t, 1), y.judge(g, t, 1));
                due.is("judge", x.judge(g, t, i), y.judge(g, t, i));
                int far = wild();
                due.is("judge", x.judge(g, t, far), y.judge(g, t, far));
                break;
        }
        due.is("peek", x.peek(t, i), y.peek(t, i));
    }

    private void summing() {
        for (int what = -1; what <= 9; what++) {
            due.is("told(" + what + ")", x.told(what), y.told(what));
            due.is("count(" + what + ")", x.count(what), y.count(what));
        }
    }

    private void text() {
        StringBuilder t = new StringBuilder();
        int clauses = 1 + dice.nextInt(dice.nextInt(6) == 0 ? 12 : 4);
        for (int c = 0; c < clauses; c++) {
            t.append(c == 0 ? "" : ";").append(clause());
        }
        int spoils = dice.nextInt(5) - 2;
        for (int i = 0; i < spoils && t.length() > 0; i++) {
            int at = dice.nextInt(t.length());
            String signs = "0123456789.;-tmop x";
            char sign = signs.charAt(dice.nextInt(signs.length()));
            switch (dice.nextInt(4)) {
                case 0:
                    t.setCharAt(at, sign);
                    break;
                case 1:
                    t.insert(at, sign);
                    break;
                case 2:
                    t.deleteCharAt(at);
                    break;
                default:
                    t.setLength(at);
                    break;
            }
        }
        for (int i = 0; i < t.length(); i++) {
            due.is("feed", x.feed(t.charAt(i)), y.feed(t.charAt(i)));
        }
        due.is("feed", x.feed(-1), y.feed(-1));
        due.is("read " + t, x.read(), y.read());
    }

    private String clause() {
        String sign = dice.nextBoolean() ? "-" : "";
        int d = dice.nextInt(5);
        int e = dice.nextInt(5);
        switch (dice.nextInt(5)) {
            case 0:
                return "m." + sign + dice.nextInt(100) + "." + sign + dice.nextInt(10) + "." + dice.nextInt(103);
            case 1:
                return "o" + d + e + dice.nextInt(10) + dice.nextInt(10) + dice.nextInt(2) + "." + dice.nextInt(103);
            case 2:
                return "p" + dice.nextInt(6) + "." + dice.nextInt(120);
            default:
                return "t" + d + e + dice.nextInt(7) + "." + (e == 0 ? 0 : 90 + dice.nextInt(20)) + "."
                        + sign + dice.nextInt(30);
        }
    }

    /** All that can be asked. */
    private void all() {
        summing();
        for (int leg = 0; leg < 24; leg++) {
            for (int what = 0; what < 6; what++) {
                due.is("legOf", x.legOf(leg, what), y.legOf(leg, what));
            }
            for (int m = -1; m < 8; m++) {
                due.is("loss", x.loss(leg, m), y.loss(leg, m));
                due.is("value", x.value(leg, m), y.value(leg, m));
            }
        }
        for (int g = 0; g < 5; g++) {
            for (int what = 0; what < 11; what++) {
                due.is("risk", x.risk(g, what), y.risk(g, what));
                due.is("groundOf", x.groundOf(g, what), y.groundOf(g, what));
            }
            for (int m = 0; m < 8; m++) {
                due.is("row", x.row(g, m), y.row(g, m));
            }
        }
        for (int o = 0; o < 6; o++) {
            due.is("order", x.order(o), y.order(o));
            due.is("used", x.used(o, 0), y.used(o, 0));
            due.is("used", x.used(o, 1), y.used(o, 1));
        }
        for (int number = -1; number < 722; number += dice.nextInt(60) + 1) {
            due.is("ordered", x.ordered(number), y.ordered(number));
        }
        for (int t = 0; t < 6; t++) {
            for (int i = 0; i < 13; i++) {
                due.is("peek", x.peek(t, i), y.peek(t, i));
            }
        }
    }
}
