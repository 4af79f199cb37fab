import java.util.Random;

/** Runs of calls chosen by a seed, each answer held against the Model's. */
public final class ModelTest {
    private static final int RUNS = 400;
    /** An object is used for 512 calls at most: so many by steps (one more of which is 130 at most), the rest for all(). */
    private static final int BY_STEPS = 330, MOST = 512;

    private final Due due;
    private final Random dice;
    private final LegHedge x = new LegHedge();
    private final Model y = new Model();
    /** How great the numbers of this run are: what is OVER is met in some runs, seldom in others. */
    private final int mood;
    private int calls = 0;

    private ModelTest(Due due, int seed) {
        this.due = due;
        this.dice = new Random(seed);
        this.mood = seed % 6;
    }

    public static void main(String[] args) {
        Due due = new Due();
        for (int seed = 0; seed < RUNS && !due.anyWrong(); seed++) {
            due.part("seed " + seed);
            ModelTest run = new ModelTest(due, seed);
            for (int i = 0; i < MOST && run.calls < BY_STEPS && !due.anyWrong(); i++) {
                run.step();
            }
            run.all();
        }
        due.end();
    }

    private void is(String call, long got, long want) {
        calls++;
        due.is(call, got, want);
    }

    /** Of all that can be asked at the end some is, as long as there are calls left. */
    private boolean isPicked() {
        return calls < MOST && dice.nextInt(9) == 0;
    }

    private int wild() {
        int[] some = {Integer.MIN_VALUE, Integer.MAX_VALUE, -1, -2, 1000001, 100000, 61, 7};
        return some[dice.nextInt(some.length)];
    }

    /** Mostly a number that is told, now and then the next ones or a wild one. */
    private int of(int least, int most) {
        int luck = dice.nextInt(200);
        if (luck == 0) {
            return wild();
        }
        if (luck < 4) {
            return luck % 2 == 0 ? least - 1 : most + 1;
        }
        return least + (int) ((most - (long) least + 1) * dice.nextDouble());
    }

    private int quantity() {
        switch (mood) {
            case 0:
                return of(-20, 20);
            case 1:
                return of(-400, 400);
            case 2:
                return of(-100000, 100000);
            case 3:
                return dice.nextInt(3) == 0 ? of(-1000000, 1000000) : of(-30, 30);
            case 5:
                return (dice.nextBoolean() ? 1 : -1) * of(400000, 1000000);
            default:
                return of(-3, 3) * 10;
        }
    }

    private int strike(int kind) {
        if (kind == 0) {
            return dice.nextInt(60) == 0 ? 1 : 0;
        }
        if (mood == 5) {
            return of(0, 20);
        }
        return dice.nextInt(4) == 0 ? of(0, 999) : of(90, 110);
    }

    private void step() {
        int luck = dice.nextInt(100);
        if (luck < 30) {
            trade();
        } else if (luck < 45) {
            setting();
        } else if (luck < 62) {
            asking();
        } else if (luck < 75) {
            thinking();
        } else if (luck < 85) {
            tapes();
        } else if (luck < 95) {
            summing();
        } else {
            text();
        }
    }

    private void trade() {
        int g = of(0, 4);
        int kind = dice.nextInt(3) == 0 || (mood == 5 && dice.nextInt(3) == 0) ? 0 : of(0, 4);
        int e = mood == 4 ? of(0, 1) : of(0, 5);
        int k = strike(kind);
        int q = quantity();
        int leg = dice.nextInt(26);
        if (dice.nextInt(5) == 0 && y.legOf(leg, 0) != Model.NO) {
            g = (int) y.legOf(leg, 0);
            kind = (int) y.legOf(leg, 1);
            e = (int) y.legOf(leg, 2);
            k = (int) y.legOf(leg, 3);
            q = dice.nextBoolean() ? (int) -y.legOf(leg, 4) : q;
        }
        String of = "(" + g + ", " + kind + ", " + e + ", " + k + ", " + q + ")";
        is("would" + of, x.would(g, kind, e, k, q), y.would(g, kind, e, k, q));
        is("trade" + of, x.trade(g, kind, e, k, q), y.trade(g, kind, e, k, q));
        is("find" + of, x.find(g, kind, e, k), y.find(g, kind, e, k));
    }

    private void setting() {
        int luck = dice.nextInt(12);
        if (luck < 4) {
            int up = mood == 5 ? of(-12, 12) : of(-99, 99);
            int stir = of(-9, 9);
            int w = mood == 5 ? of(60, 100) : of(1, 100);
            is("move", x.move(up, stir, w), y.move(up, stir, w));
        } else if (luck == 4) {
            int m = of(0, 7);
            is("still", x.still(m), y.still(m));
        } else if (luck < 8) {
            int a = of(0, 4);
            int b = of(0, 4);
            int pa = of(1, 9);
            int pb = of(1, 9);
            int side = of(0, 1);
            int rate = mood == 5 ? of(50, 100) : of(0, 100);
            is("offset", x.offset(a, b, pa, pb, side, rate), y.offset(a, b, pa, pb, side, rate));
        } else if (luck == 8) {
            int o = of(0, 5);
            is("unset", x.unset(o), y.unset(o));
        } else {
            int g = of(0, 4);
            int what = of(0, 5);
            int size = mood < 2 ? 50 : mood == 2 ? 20000 : mood == 5 ? 2 : 1000000;
            int[] most = {130, 99, size, mood == 5 ? 15 : 99, 99, 99};
            int v = dice.nextInt(30) == 0 ? wild() : of(0, what >= 0 && what < 6 ? most[what] : 9);
            is("ground", x.ground(g, what, v), y.ground(g, what, v));
            is("groundOf", x.groundOf(g, what), y.groundOf(g, what));
        }
    }

    private void asking() {
        int leg = of(0, 12);
        int move = of(-1, 7);
        int g = of(0, 4);
        int what = of(0, 10);
        is("legOf", x.legOf(leg, what), y.legOf(leg, what));
        is("value", x.value(leg, move), y.value(leg, move));
        is("taken", x.taken(leg, what), y.taken(leg, what));
        is("loss", x.loss(leg, move), y.loss(leg, move));
        is("row", x.row(g, move), y.row(g, move));
        is("moved", x.moved(g, move, what & 1), y.moved(g, move, what & 1));
        is("risk", x.risk(g, what), y.risk(g, what));
        is("share", x.share(g, what & 1), y.share(g, what & 1));
        is("order", x.order(leg), y.order(leg));
        is("used", x.used(leg, what & 1), y.used(leg, what & 1));
        int number = of(0, 20);
        is("ordered", x.ordered(number), y.ordered(number));
    }

    private void thinking() {
        int luck = dice.nextInt(20);
        if (luck < 4) {
            int w = of(1, 300);
            int floor = dice.nextInt(10);
            int margin = dice.nextInt(3) == 0 ? of(0, 500) : (int) y.told(0);
            if (dice.nextInt(3) == 0) {
                w = 100;
                for (int g = 0; g < 5; g++) {
                    is("ground", x.ground(g, 5, floor), y.ground(g, 5, floor));
                }
            }
            is("see", x.see(w, margin), y.see(w, margin));
        } else if (luck == 4) {
            is("see", x.see(-1, luck), y.see(-1, luck));
        } else if (luck == 5) {
            int v = wild();
            is("plan", x.plan(-1, v), y.plan(-1, v));
        } else if (luck < 12) {
            int what = of(0, 3);
            int v = dice.nextBoolean() ? of(0, 8) : of(-120, 120);
            is("plan", x.plan(what, v), y.plan(what, v));
        }
        is("fits", x.fits(0), y.fits(0));
        is("fits", x.fits(1), y.fits(1));
        is("ends", x.ends(), y.ends());
        if (luck == 12) {
            is("image", x.image(), y.image());
        } else if (luck == 13 && dice.nextInt(4) == 0) {
            is("undo", x.undo(), y.undo());
        } else if (luck == 14) {
            int g = of(0, 4);
            int e = of(0, 5);
            is("hedge", x.hedge(g, e), y.hedge(g, e));
        }
    }

    private void tapes() {
        int t = of(0, 5);
        int o = of(0, 5);
        int i = of(0, 12);
        int j = of(0, 12);
        int n = of(0, 12);
        int sort = dice.nextInt(3) == 0 ? of(-1, 4) : 2;
        long v = dice.nextBoolean() ? dice.nextLong() : dice.nextInt(500) - 250;
        switch (dice.nextInt(4)) {
            case 0:
                is("tape", x.tape(t, sort, n), y.tape(t, sort, n));
                break;
            case 1:
                is("item", x.item(t, i, v), y.item(t, i, v));
                break;
            case 2:
                is("shift", x.shift(t, i, o, j, n), y.shift(t, i, o, j, n));
                break;
            default:
                int g = of(0, 4);
                for (int m = 0; m < dice.nextInt(9); m++) {
                    int w = (int) y.row(g, m);
                    is("item", x.item(t, m + 1, w), y.item(t, m + 1, w));
                }
                is("judge", x.judge(g, t, 1), y.judge(g, t, 1));
                is("judge", x.judge(g, t, i), y.judge(g, t, i));
                int far = wild();
                is("judge", x.judge(g, t, far), y.judge(g, t, far));
                break;
        }
        is("peek", x.peek(t, i), y.peek(t, i));
    }

    private void summing() {
        for (int what = -1; what <= 9; what++) {
            is("told(" + what + ")", x.told(what), y.told(what));
            is("count(" + what + ")", x.count(what), y.count(what));
        }
    }

    private void text() {
        StringBuilder t = new StringBuilder();
        int clauses = 1 + dice.nextInt(dice.nextInt(6) == 0 ? 12 : 4);
        for (int c = 0; c < clauses; c++) {
            t.append(c == 0 ? "" : ";").append(clause());
        }
        int spoils = dice.nextInt(5) - 2;
        for (int i = 0; i < spoils && t.length() > 0; i++) {
            int at = dice.nextInt(t.length());
            String signs = "0123456789.;-tmop x";
            char sign = signs.charAt(dice.nextInt(signs.length()));
            switch (dice.nextInt(4)) {
                case 0:
                    t.setCharAt(at, sign);
                    break;
                case 1:
                    t.insert(at, sign);
                    break;
                case 2:
                    t.deleteCharAt(at);
                    break;
                default:
                    t.setLength(at);
                    break;
            }
        }
        for (int i = 0; i < t.length(); i++) {
            is("feed", x.feed(t.charAt(i)), y.feed(t.charAt(i)));
        }
        is("feed", x.feed(-1), y.feed(-1));
        is("read " + t, x.read(), y.read());
    }

    private String clause() {
        String sign = dice.nextBoolean() ? "-" : "";
        int d = dice.nextInt(5);
        int e = dice.nextInt(5);
        switch (dice.nextInt(5)) {
            case 0:
                return "m." + sign + dice.nextInt(100) + "." + sign + dice.nextInt(10) + "." + dice.nextInt(103);
            case 1:
                return "o" + d + e + dice.nextInt(10) + dice.nextInt(10) + dice.nextInt(2) + "." + dice.nextInt(103);
            case 2:
                return "p" + dice.nextInt(6) + "." + dice.nextInt(120);
            default:
                return "t" + d + e + dice.nextInt(7) + "." + (e == 0 ? 0 : 90 + dice.nextInt(20)) + "."
                        + sign + dice.nextInt(30);
        }
    }

    /** Something of all that can be asked. */
    private void all() {
        for (int what = 0; what <= 8; what++) {
            int k = what;
            ask("told", () -> x.told(k), () -> y.told(k));
            ask("count", () -> x.count(k), () -> y.count(k));
            ask("order", () -> x.order(k), () -> y.order(k));
            ask("used", () -> x.used(k, 0), () -> y.used(k, 0));
            ask("used", () -> x.used(k, 1), () -> y.used(k, 1));
        }
        for (int i = 0; i < 24 * 15; i++) {
            int leg = i / 15;
            int what = i % 15;
            ask("legOf", () -> x.legOf(leg, what), () -> y.legOf(leg, what));
            ask("loss", () -> x.loss(leg, what), () -> y.loss(leg, what));
            ask("value", () -> x.value(leg, what - 1), () -> y.value(leg, what - 1));
        }
        for (int i = 0; i < 5 * 11; i++) {
            int g = i / 11;
            int what = i % 11;
            ask("risk", () -> x.risk(g, what), () -> y.risk(g, what));
            ask("groundOf", () -> x.groundOf(g, what), () -> y.groundOf(g, what));
            ask("row", () -> x.row(g, what), () -> y.row(g, what));
            ask("peek", () -> x.peek(g, what), () -> y.peek(g, what));
        }
        for (int n = -1; n < 722; n += dice.nextInt(20) + 1) {
            int number = n;
            ask("ordered", () -> x.ordered(number), () -> y.ordered(number));
        }
    }

    private interface Asked {
        long answer();
    }

    private void ask(String call, Asked got, Asked want) {
        if (isPicked()) {
            is(call, got.answer(), want.answer());
        }
    }
}
