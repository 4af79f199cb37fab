import java.util.ArrayList;
import java.util.List;

/**
 * The document once more, as slowly and plainly as it can be said: every answer is reckoned anew,
 * every order is gone through whole. The class under test is held against it by ModelTest.
 */
final class Model {
    static final long NO = Long.MIN_VALUE;
    static final int NONE = -1, BAD = -2, STATE = -3, FULL = -4, OVER = -15;
    static final int NOTHING = -11, CAST = -12, PLACE = -13, SIZE = -14;

    /** What the image holds. */
    static final class State {
        int[][] grounds = new int[5][];
        List<int[]> moves = new ArrayList<>();
        List<int[]> offsets = new ArrayList<>();
        List<int[]> legs = new ArrayList<>();
        List<int[]> seen = new ArrayList<>();
        List<int[]> plan = new ArrayList<>();

        State() {
            for (int g = 0; g < 5; g++) {
                grounds[g] = new int[] {100, 20, 1, 10, 2, 1};
            }
        }

        State copy() {
            State c = new State();
            for (int g = 0; g < 5; g++) {
                c.grounds[g] = grounds[g].clone();
            }
            for (int[] r : moves) {
                c.moves.add(r.clone());
            }
            for (int[] r : offsets) {
                c.offsets.add(r.clone());
            }
            for (int[] r : legs) {
                c.legs.add(r.clone());
            }
            for (int[] r : seen) {
                c.seen.add(r.clone());
            }
            for (int[] r : plan) {
                c.plan.add(r.clone());
            }
            return c;
        }
    }

    static final class TooGreat extends Exception {
        private static final long serialVersionUID = 1L;
    }

    private State s = new State();
    private State kept = null;
    private final StringBuilder text = new StringBuilder();
    private final int[] sorts = {-1, -1, -1, -1, -1, -1};
    private final long[][] tapes = new long[6][];

    private static long fit(long n) throws TooGreat {
        if (n != (int) n) {
            throw new TooGreat();
        }
        return n;
    }

    /** All numbers that are told of a state; each looked at as it comes. */
    static final class Told {
        long[][] loss = new long[24][8];
        long[] legDelta = new long[24];
        long[][] row = new long[5][8];
        long[][] by = new long[5][6];
        long[] delta = new long[5];
        long[] scan = new long[5];
        long[] charges = new long[5];
        long[] shorts = new long[5];
        long[] per = new long[5];
        long scans, chargesAll, floors, worst, credits, margin;
        int[] order = new int[0];
        long[] usedK = new long[6];
        long[] usedCredit = new long[6];
        List<Long> byNumber = new ArrayList<>();
    }

    private static int price(State s, int g, int move) {
        int p = s.grounds[g][0];
        if (move >= 0) {
            p += s.moves.get(move)[0] * s.grounds[g][3] / 10;
            if (p < 1) {
                p = 1;
            }
        }
        return p;
    }

    private static int unrest(State s, int g, int move) {
        int v = s.grounds[g][1];
        if (move >= 0) {
            v += s.moves.get(move)[1];
            if (v < 0) {
                v = 0;
            }
        }
        return v;
    }

    private static int above(int one, int other) {
        return one > other ? one - other : 0;
    }

    private static int money(int kind, int strike, int p) {
        if (kind == 0) {
            return p;
        }
        if (kind == 1) {
            return above(p, strike);
        }
        if (kind == 2) {
            return above(strike, p);
        }
        if (kind == 3) {
            return above(p, strike) > 9 ? 9 : above(p, strike);
        }
        return above(strike, p) + above(p, strike);
    }

    private static int value(int[] leg, int p, int v) {
        if (leg[1] == 0) {
            return p;
        }
        int distance = p > leg[3] ? p - leg[3] : leg[3] - p;
        return money(leg[1], leg[3], p) + above(v * (leg[2] + 1), distance) / 2;
    }

    private static Told reckon(State s) throws TooGreat {
        Told t = new Told();
        for (int i = 0; i < s.legs.size(); i++) {
            int[] leg = s.legs.get(i);
            int g = leg[0];
            for (int m = 0; m < s.moves.size(); m++) {
                long n = fit((long) leg[4] * s.grounds[g][2]);
                n = fit(n * (value(leg, price(s, g, -1), unrest(s, g, -1))
                        - value(leg, price(s, g, m), unrest(s, g, m))));
                n = fit(n * s.moves.get(m)[2]);
                t.loss[i][m] = n / 100;
            }
            int p = s.grounds[g][0];
            int v = s.grounds[g][1];
            t.legDelta[i] = fit(fit(leg[4] * 5L) * (value(leg, p + 1, v) - value(leg, p - 1, v)));
        }
        for (int g = 0; g < 5; g++) {
            ground(s, t, g);
        }
        t.scans = fit(t.scans);
        t.chargesAll = fit(t.chargesAll);
        t.floors = fit(t.floors);
        fit(t.scans + t.chargesAll);
        for (int m = 0; m < s.moves.size(); m++) {
            long sum = 0;
            for (int g = 0; g < 5; g++) {
                sum += t.row[g][m];
            }
            t.worst = Math.max(t.worst, fit(sum));
        }
        t.credits = -1;
        orders(s, t, new int[s.offsets.size()], 0);
        long less = fit(t.scans + t.chargesAll - t.credits);
        t.margin = Math.max(less, Math.max(t.floors, t.worst));
        return t;
    }

    private static void ground(State s, Told t, int g) throws TooGreat {
        for (int m = 0; m < s.moves.size(); m++) {
            for (int i = 0; i < s.legs.size(); i++) {
                if (s.legs.get(i)[0] == g) {
                    t.row[g][m] += t.loss[i][m];
                }
            }
            t.scan[g] = Math.max(t.scan[g], fit(t.row[g][m]));
        }
        for (int e = 0; e < 6; e++) {
            for (int i = 0; i < s.legs.size(); i++) {
                if (s.legs.get(i)[0] == g && s.legs.get(i)[2] == e) {
                    t.by[g][e] += t.legDelta[i];
                }
            }
            fit(Math.abs(t.by[g][e]));
            t.delta[g] += t.by[g][e];
        }
        fit(Math.abs(t.delta[g]));
        long[] left = t.by[g].clone();
        for (int gap = 1; gap <= 5; gap++) {
            for (int e = 0; e < 6; e++) {
                int f = e + gap;
                if (f <= 5 && Long.signum(left[e]) * Long.signum(left[f]) == -1) {
                    long m = Math.min(Math.abs(left[e]), Math.abs(left[f]));
                    left[e] -= m * Long.signum(left[e]);
                    left[f] -= m * Long.signum(left[f]);
                    t.charges[g] += fit(fit(m * s.grounds[g][4]) * (f - e)) / 10;
                }
            }
        }
        for (int[] leg : s.legs) {
            if (leg[0] == g && leg[1] != 0 && leg[4] < 0) {
                t.shorts[g] -= leg[4];
            }
        }
        fit(t.shorts[g]);
        fit(t.charges[g]);
        long ten = fit(10 * t.scan[g]);
        t.per[g] = t.delta[g] == 0 ? 0 : ten / Math.abs(t.delta[g]);
        t.scans += t.scan[g];
        t.chargesAll += t.charges[g];
        t.floors += fit(t.shorts[g] * s.grounds[g][5]);
    }

    private static void orders(State s, Told t, int[] order, int depth) throws TooGreat {
        if (depth == order.length) {
            long[] k = new long[6];
            long[] credit = new long[6];
            long sum = credits(s, t, order, k, credit);
            t.byNumber.add(sum);
            if (sum > t.credits) {
                t.credits = sum;
                t.order = order.clone();
                t.usedK = k;
                t.usedCredit = credit;
            }
            return;
        }
        for (int o = 0; o < order.length; o++) {
            boolean free = true;
            for (int i = 0; i < depth; i++) {
                free &= order[i] != o;
            }
            if (free) {
                order[depth] = o;
                orders(s, t, order, depth + 1);
            }
        }
    }

    private static long credits(State s, Told t, int[] order, long[] ks, long[] credit) throws TooGreat {
        long[] left = new long[5];
        for (int g = 0; g < 5; g++) {
            left[g] = Math.abs(t.delta[g]);
        }
        long sum = 0;
        for (int o : order) {
            int[] off = s.offsets.get(o);
            int a = off[0];
            int b = off[1];
            if (Long.signum(t.delta[a]) * Long.signum(t.delta[b]) != (off[4] == 1 ? 1 : -1)) {
                continue;
            }
            long k = Math.min(left[a] / (10 * off[2]), left[b] / (10 * off[3]));
            left[a] -= 10 * k * off[2];
            left[b] -= 10 * k * off[3];
            long both = fit(fit(off[2] * t.per[a]) + fit(off[3] * t.per[b]));
            ks[o] = k;
            credit[o] = fit(fit(k * both) * off[5]) / 100;
            sum += credit[o];
        }
        return fit(sum);
    }

    private Told told() {
        return tried(s);
    }

    private static Told tried(State s) {
        try {
            return reckon(s);
        } catch (TooGreat e) {
            return null;
        }
    }

    /** Takes a new state over, if nothing in it is too great. */
    private boolean taken(State next) {
        if (tried(next) == null) {
            return false;
        }
        s = next;
        return true;
    }

    private static boolean in(int v, int least, int most) {
        return v >= least && v <= most;
    }

    int ground(int g, int what, int v) {
        if (!in(g, 0, 4) || !in(what, 0, 5)) {
            return NONE;
        }
        int[] least = {1, 0, 1, 0, 0, 0};
        int[] most = {999, 99, 1000000, 99, 99, 99};
        if (!in(v, least[what], most[what])) {
            return BAD;
        }
        int was = s.grounds[g][what];
        State next = s.copy();
        next.grounds[g][what] = v;
        return taken(next) ? was : OVER;
    }

    int groundOf(int g, int what) {
        return in(g, 0, 4) && in(what, 0, 5) ? s.grounds[g][what] : NONE;
    }

    int move(int up, int stir, int weight) {
        if (!in(up, -99, 99) || !in(stir, -9, 9) || !in(weight, 1, 100)) {
            return BAD;
        }
        if (s.moves.size() == 8) {
            return FULL;
        }
        State next = s.copy();
        next.moves.add(new int[] {up, stir, weight});
        return taken(next) ? s.moves.size() - 1 : OVER;
    }

    int still(int move) {
        if (!in(move, 0, s.moves.size() - 1)) {
            return NONE;
        }
        s.moves.remove(move);
        return s.moves.size();
    }

    int moved(int g, int move, int what) {
        if (!in(g, 0, 4) || !in(move, -1, s.moves.size() - 1) || !in(what, 0, 1)) {
            return NONE;
        }
        return what == 0 ? price(s, g, move) : unrest(s, g, move);
    }

    int offset(int a, int b, int partsA, int partsB, int side, int rate) {
        if (!in(a, 0, 4) || !in(b, 0, 4) || a == b) {
            return NONE;
        }
        if (!in(partsA, 1, 9) || !in(partsB, 1, 9) || !in(side, 0, 1) || !in(rate, 0, 100)) {
            return BAD;
        }
        if (s.offsets.size() == 6) {
            return FULL;
        }
        State next = s.copy();
        next.offsets.add(new int[] {a, b, partsA, partsB, side, rate});
        return taken(next) ? s.offsets.size() - 1 : OVER;
    }

    int unset(int offset) {
        if (!in(offset, 0, s.offsets.size() - 1)) {
            return NONE;
        }
        s.offsets.remove(offset);
        return s.offsets.size();
    }

    /** The state behind a trade; its refusal alone in the answer's place 0 if it isn't done. */
    private State traded(int g, int kind, int expiry, int strike, int q, int[] answer) {
        answer[0] = find(g, kind, expiry, strike);
        answer[1] = 0;
        if (answer[0] == NONE || answer[0] == BAD) {
            return null;
        }
        if (q == 0 || !in(q, -1000000, 1000000)) {
            answer[0] = BAD;
            return null;
        }
        State next = s.copy();
        int leg = answer[0];
        if (leg >= 0) {
            long sum = (long) next.legs.get(leg)[4] + q;
            if (sum != (int) sum) {
                answer[0] = OVER;
                return null;
            }
            next.legs.get(leg)[4] = (int) sum;
            answer[1] = (int) sum;
            if (sum == 0) {
                next.legs.remove(leg);
            }
        } else {
            if (next.legs.size() == 24) {
                answer[0] = FULL;
                return null;
            }
            next.legs.add(new int[] {g, kind, expiry, strike, q});
            answer[1] = q;
        }
        if (tried(next) == null) {
            answer[0] = OVER;
            return null;
        }
        return next;
    }

    int trade(int g, int kind, int expiry, int strike, int q) {
        int[] answer = new int[2];
        State next = traded(g, kind, expiry, strike, q, answer);
        if (next == null) {
            return answer[0];
        }
        s = next;
        return answer[1];
    }

    int find(int g, int kind, int expiry, int strike) {
        if (!in(g, 0, 4) || !in(kind, 0, 4) || !in(expiry, 0, 5)) {
            return NONE;
        }
        if (!in(strike, 0, 999) || (kind == 0 && strike != 0)) {
            return BAD;
        }
        for (int i = 0; i < s.legs.size(); i++) {
            int[] leg = s.legs.get(i);
            if (leg[0] == g && leg[1] == kind && leg[2] == expiry && leg[3] == strike) {
                return i;
            }
        }
        return -5;
    }

    long legOf(int leg, int what) {
        if (!in(leg, 0, s.legs.size() - 1) || !in(what, 0, 5)) {
            return NO;
        }
        return what == 5 ? told().legDelta[leg] : s.legs.get(leg)[what];
    }

    int value(int leg, int move) {
        if (!in(leg, 0, s.legs.size() - 1) || !in(move, -1, s.moves.size() - 1)) {
            return NONE;
        }
        int g = s.legs.get(leg)[0];
        return value(s.legs.get(leg), price(s, g, move), unrest(s, g, move));
    }

    int taken(int leg, int k) {
        if (!in(leg, 0, s.legs.size() - 1)) {
            return NONE;
        }
        if (!in(k, 0, 4)) {
            return BAD;
        }
        int[] l = s.legs.get(leg);
        boolean so = l[1] == k || (l[1] == 3 && k == 1) || (l[1] == 4 && k == 2);
        return so ? money(l[1], l[3], s.grounds[l[0]][0]) : CAST;
    }

    long loss(int leg, int move) {
        return in(leg, 0, s.legs.size() - 1) && in(move, 0, s.moves.size() - 1) ? told().loss[leg][move] : NO;
    }

    long row(int g, int move) {
        return in(g, 0, 4) && in(move, 0, s.moves.size() - 1) ? told().row[g][move] : NO;
    }

    long risk(int g, int what) {
        if (!in(g, 0, 4) || !in(what, 0, 10)) {
            return NO;
        }
        Told t = told();
        long[][] some = {t.scan, t.charges, t.shorts, t.per, t.delta};
        return what < 5 ? some[what][g] : t.by[g][what - 5];
    }

    long told(int what) {
        if (!in(what, 0, 8)) {
            return NO;
        }
        Told t = told();
        long[] all = {t.margin, t.scans, t.chargesAll, t.floors, t.worst, t.credits,
            s.legs.size(), s.moves.size(), s.offsets.size()};
        return all[what];
    }

    int order(int k) {
        return in(k, 0, s.offsets.size() - 1) ? told().order[k] : NONE;
    }

    int used(int offset, int what) {
        if (!in(offset, 0, s.offsets.size() - 1) || !in(what, 0, 1)) {
            return NONE;
        }
        Told t = told();
        return (int) (what == 0 ? t.usedK[offset] : t.usedCredit[offset]);
    }

    long ordered(int number) {
        Told t = told();
        return in(number, 0, t.byNumber.size() - 1) ? t.byNumber.get(number) : NO;
    }

    long would(int g, int kind, int expiry, int strike, int q) {
        State next = traded(g, kind, expiry, strike, q, new int[2]);
        return next == null ? NO : tried(next).margin;
    }

    int hedge(int g, int expiry) {
        if (!in(g, 0, 4) || !in(expiry, 0, 5)) {
            return NONE;
        }
        long[] margins = new long[41];
        for (int q = -20; q <= 20; q++) {
            margins[q + 20] = q == 0 ? told().margin : would(g, 0, expiry, 0, q);
        }
        int best = 0;
        for (int q = -20; q <= 20; q++) {
            long m = margins[q + 20];
            long b = margins[best + 20];
            if (m != NO && (m < b || (m == b && (Math.abs(q) < Math.abs(best)
                    || (Math.abs(q) == Math.abs(best) && q < best))))) {
                best = q;
            }
        }
        return best;
    }

    long share(int g, int part) {
        if (!in(g, 0, 4) || !in(part, 0, 1)) {
            return NO;
        }
        Told t = told();
        if (t.scans == 0) {
            return NO;
        }
        java.math.BigInteger d = java.math.BigInteger.valueOf(t.scans).gcd(java.math.BigInteger.valueOf(t.scan[g]));
        return (part == 0 ? t.scan[g] : t.scans) / d.longValue();
    }

    int see(int weight, int margin) {
        if (weight == -1) {
            s.seen.clear();
            return 0;
        }
        if (!in(weight, 1, 300) || margin < 0) {
            return BAD;
        }
        if (s.seen.size() == 4) {
            return FULL;
        }
        s.seen.add(new int[] {weight, margin});
        return s.seen.size();
    }

    int fits(int what) {
        if (!in(what, 0, 1)) {
            return NONE;
        }
        int many = 0;
        int least = -5;
        for (int floor = 0; floor <= 9; floor++) {
            boolean all = true;
            for (int[] row : s.seen) {
                State next = s.copy();
                for (int g = 0; g < 5; g++) {
                    next.grounds[g][5] = floor;
                }
                for (int[] leg : next.legs) {
                    leg[4] = (int) ((long) leg[4] * row[0] / 100);
                }
                next.legs.removeIf(leg -> leg[4] == 0);
                Told t = tried(next);
                all &= t != null && t.margin == row[1];
            }
            if (all) {
                many++;
                if (least < 0) {
                    least = floor;
                }
            }
        }
        return what == 0 ? many : least;
    }

    int plan(int what, int v) {
        if (what == -1) {
            s.plan.clear();
            return 0;
        }
        if (!in(what, 0, 3)) {
            return NONE;
        }
        if (what == 2 && !in(v, 0, s.legs.size() - 1)) {
            return NONE;
        }
        if (what == 3 && !in(v, 0, s.moves.size() - 1)) {
            return NONE;
        }
        if (what < 2 && !in(v, -999, 999)) {
            return BAD;
        }
        if (s.plan.size() == 8) {
            return FULL;
        }
        s.plan.add(new int[] {what, v});
        return s.plan.size();
    }

    long ends() {
        State next = s.copy();
        List<int[]> goneLegs = new ArrayList<>();
        List<int[]> goneMoves = new ArrayList<>();
        for (int[] row : s.plan) {
            int v = row[1];
            for (int g = 0; g < 5; g++) {
                int[] ground = next.grounds[g];
                if (row[0] == 0) {
                    ground[0] = Math.min(999, Math.max(1, ground[0] + v));
                } else if (row[0] == 1) {
                    ground[1] = Math.min(99, Math.max(0, ground[1] + v));
                }
            }
            if (row[0] == 2 && v < next.legs.size()) {
                goneLegs.add(next.legs.get(v));
            }
            if (row[0] == 3 && v < next.moves.size()) {
                goneMoves.add(next.moves.get(v));
            }
        }
        next.legs.removeIf(leg -> goneLegs.contains(leg));
        next.moves.removeIf(move -> goneMoves.contains(move));
        Told t = tried(next);
        return t == null ? NO : t.margin;
    }

    int feed(int sign) {
        if (!in(sign, 0, 127)) {
            return BAD;
        }
        if (text.length() == 100) {
            return FULL;
        }
        text.append((char) sign);
        return text.length();
    }

    /** Whether a set-up, or the start of one, is a whole match of the form (all its starts, too). */
    private static final String NUMBER_1 = "[0-9]", NUMBER_2 = "[0-9]{1,2}", NUMBER_3 = "[0-9]{1,3}";
    private static final String[] CLAUSES = {
        "t[0-9][0-9][0-9]\\.(" + NUMBER_3 + ")\\.(-?" + NUMBER_3 + ")",
        "m\\.(-?" + NUMBER_2 + ")\\.(-?" + NUMBER_1 + ")\\.(" + NUMBER_3 + ")",
        "o[0-9][0-9][0-9][0-9][0-9]\\.(" + NUMBER_3 + ")",
        "p[0-9]\\.(" + NUMBER_3 + ")"};

    int read() {
        String t = text.toString();
        text.setLength(0);
        java.util.regex.Pattern whole = java.util.regex.Pattern.compile(
                "((" + String.join(")|(", CLAUSES) + "))(;((" + String.join(")|(", CLAUSES) + "))){0,9}");
        java.util.regex.Matcher m = whole.matcher(t);
        if (!m.matches()) {
            int fault = t.length();
            for (int n = t.length(); n >= 1; n--) {
                java.util.regex.Matcher head = whole.matcher(t.substring(0, n));
                // hitEnd: no match, but more signs could have made one.
                if (!head.matches() && !head.hitEnd()) {
                    fault = n - 1;
                }
            }
            return -10 - fault;
        }
        int done = 0;
        for (String c : t.split(";")) {
            done += clause(c) ? 1 : 0;
        }
        return done;
    }

    private boolean clause(String c) {
        String[] parts = c.substring(1).split("\\.");
        String d = parts[0];
        if (c.charAt(0) == 't') {
            int[] answer = new int[2];
            State next = traded(d.charAt(0) - '0', d.charAt(1) - '0', d.charAt(2) - '0',
                    Integer.parseInt(parts[1]), Integer.parseInt(parts[2]), answer);
            if (next != null) {
                s = next;
            }
            return next != null;
        }
        if (c.charAt(0) == 'm') {
            return move(Integer.parseInt(parts[1]), Integer.parseInt(parts[2]), Integer.parseInt(parts[3])) >= 0;
        }
        if (c.charAt(0) == 'o') {
            return offset(d.charAt(0) - '0', d.charAt(1) - '0', d.charAt(2) - '0', d.charAt(3) - '0',
                    d.charAt(4) - '0', Integer.parseInt(parts[1])) >= 0;
        }
        return ground(d.charAt(0) - '0', 0, Integer.parseInt(parts[1])) >= 0;
    }

    int judge(int g, int tape, int i) {
        if (!in(g, 0, 4) || !in(tape, 0, 5)) {
            return NONE;
        }
        if (sorts[tape] != -1 && sorts[tape] != 2) {
            return CAST;
        }
        Told t = told();
        for (int m = 0; m < s.moves.size(); m++) {
            if (i < 0 || sorts[tape] == -1 || (long) i + m >= tapes[tape].length) {
                return 100 + m;
            }
            if (tapes[tape][i + m] != t.row[g][m]) {
                return m;
            }
        }
        return -5;
    }

    int image() {
        kept = s.copy();
        return s.legs.size();
    }

    int undo() {
        if (kept == null) {
            return STATE;
        }
        s = kept.copy();
        return s.legs.size();
    }

    int count(int what) {
        if (!in(what, 0, 6)) {
            return BAD;
        }
        java.util.Set<Integer> pairs = new java.util.HashSet<>();
        for (int[] leg : s.legs) {
            if (leg[1] != 0) {
                pairs.add(leg[3] * 10 + leg[2]);
            }
        }
        int[] all = {s.legs.size(), s.moves.size(), s.offsets.size(), s.seen.size(), s.plan.size(),
            text.length(), pairs.size()};
        return all[what];
    }

    int tape(int tape, int sort, int n) {
        if (!in(tape, 0, 5)) {
            return NONE;
        }
        if (sort != -1 && (!in(sort, 0, 4) || n > 60)) {
            return BAD;
        }
        if (sort != -1 && n < 0) {
            return SIZE;
        }
        sorts[tape] = sort;
        tapes[tape] = sort == -1 ? null : new long[n];
        return 1;
    }

    int item(int tape, int i, long v) {
        if (!in(tape, 0, 5)) {
            return NONE;
        }
        if (sorts[tape] == -1) {
            return NOTHING;
        }
        if (!in(i, 0, tapes[tape].length - 1)) {
            return PLACE;
        }
        long[] cut = {(byte) v, (short) v, (int) v, v, v == 0 ? 0 : 1};
        tapes[tape][i] = cut[sorts[tape]];
        return 1;
    }

    long peek(int tape, int i) {
        if (!in(tape, 0, 5) || sorts[tape] == -1 || !in(i, 0, tapes[tape].length - 1)) {
            return NO;
        }
        return tapes[tape][i];
    }

    int shift(int tape, int i, int other, int j, int n) {
        if (!in(tape, 0, 5) || !in(other, 0, 5)) {
            return NONE;
        }
        if (sorts[tape] == -1 || sorts[other] == -1) {
            return NOTHING;
        }
        if (sorts[tape] != sorts[other]) {
            return CAST;
        }
        if (n < 0 || i < 0 || j < 0 || (long) i + n > tapes[tape].length || (long) j + n > tapes[other].length) {
            return PLACE;
        }
        long[] before = tapes[tape].clone();
        for (int at = 0; at < n; at++) {
            tapes[other][j + at] = before[i + at];
        }
        return n;
    }
}
