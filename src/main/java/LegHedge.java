/**
 * Trades of futures and options on five grounds, what they would lose by told moves, and the
 * margin for it. See README.md.
 */
public final class LegHedge {
    public static final int NONE = -1, BAD = -2, STATE = -3, FULL = -4, OVER = -15;
    public static final long NO = Long.MIN_VALUE;

    private static final int NOT_THERE = -5, NOTHING = -11, CAST = -12, PLACE = -13, SIZE = -14;
    private static final int FAULT = -10, ENDED = 100;
    private static final int DONE = 0;

    private static final int GROUNDS = 5, KINDS = 5, EXPIRIES = 6;
    private static final int MOST_STRIKE = 999, MOST_TRADED = 1000000, MOST_HEDGED = 20;
    private static final int MOST_FLOOR_TRIED = 9, MOST_PLANNED = 999;

    private static final int FUTURE = 0, CALL = 1, PUT = 2, CAPPED = 3;
    private static final int MOST_CAPPED = 9;
    /** Of each KIND the one that it is under. */
    private static final int[] UNDER = {NONE, NONE, NONE, CALL, PUT};

    /** What of a GROUND, with the least and the most that it may be, and what it is at first. */
    private static final int PRICE = 0, UNREST = 1, LOT = 2, RANGE = 3, SPREAD = 4, FLOOR = 5;
    private static final int GROUND_WIDTH = 6;
    private static final int[] LEAST = {1, 0, 1, 0, 0, 0};
    private static final int[] MOST = {999, 99, 1000000, 99, 99, 99};
    private static final int[] AT_FIRST = {100, 20, 1, 10, 2, 1};

    private static final int LEG_GROUND = 0, LEG_KIND = 1, LEG_EXPIRY = 2, LEG_STRIKE = 3;
    private static final int LEG_QUANTITY = 4, LEG_DELTA = 5, LEG_WIDTH = 5;
    private static final int MOST_LEGS = 24;

    private static final int UP = 0, STIR = 1, WEIGHT = 2, MOVE_WIDTH = 3;
    private static final int MOST_MOVES = 8;

    private static final int SIDE_A = 0, SIDE_B = 1, PARTS_A = 2, PARTS_B = 3, SIDE = 4, RATE = 5;
    private static final int OFFSET_WIDTH = 6, MOST_OFFSETS = 6;
    /** How many orders there are of 0, 1, .. OFFSETS. */
    private static final int[] ORDERS = {1, 1, 2, 6, 24, 120, 720};

    private static final int SEEN_WEIGHT = 0, SEEN_MARGIN = 1, SEEN_WIDTH = 2, MOST_SEEN = 4;
    private static final int PLAN_WHAT = 0, PLAN_V = 1, PLAN_WIDTH = 2, MOST_PLAN = 8;
    private static final int PLAN_PRICES = 0, PLAN_UNREST = 1, PLAN_LEG = 2, PLAN_MOVE = 3;

    /** What of all is told; by told() LEGS, MOVES, OFFSETS follow. */
    private static final int MARGIN = 0, SCANS = 1, CHARGES = 2, FLOORS = 3, WORST = 4, CREDITS = 5;
    private static final int TOTALS = 6;

    private static final int MOST_SIGNS = 100, MOST_CLAUSES = 10, MOST_NUMBERS = 6;
    /** CLAUSES behind their letter: a digit is how many digits a number has at most. */
    private static final String TRADE_FORM = "111.3.-3", MOVE_FORM = ".-2.-1.3";
    private static final String OFFSET_FORM = "11111.3", PRICE_FORM = "1.3";

    private static final int TAPES = 6, MOST_ITEMS = 60;
    private static final int NO_SORT = -1, BYTES = 0, SHORTS = 1, INTS = 2, LONGS = 3, BOOLEANS = 4;

    /** What stands, and a second one in which all that may be refused is tried first. */
    private Reckoning now;
    private Reckoning thought;
    private final Book kept;
    private boolean hasImage;
    private final SetUp setUp;
    private final Tapes tapes;
    /** Which FLOORS are not ruled out yet by what is SEEN. */
    private final boolean[] fitting;

    public LegHedge() {
        now = new Reckoning();
        thought = new Reckoning();
        kept = new Book();
        hasImage = false;
        setUp = new SetUp();
        tapes = new Tapes();
        fitting = new boolean[MOST_FLOOR_TRIED + 1];
        now.reckon();
    }

    // ---- grounds, moves, offsets

    public int ground(int ground, int what, int v) {
        int was = groundOf(ground, what);
        int refused = tryGround(ground, what, v);
        if (refused != DONE) {
            return refused;
        }
        accept();
        return was;
    }

    public int groundOf(int ground, int what) {
        if (!isGround(ground) || !within(what, 0, GROUND_WIDTH - 1)) {
            return NONE;
        }
        return now.book.grounds.at(ground, what);
    }

    public int move(int up, int stir, int weight) {
        int refused = tryMove(up, stir, weight);
        if (refused != DONE) {
            return refused;
        }
        accept();
        return now.book.moves.size - 1;
    }

    public int still(int move) {
        if (!now.book.moves.has(move)) {
            return NONE;
        }
        now.book.moves.removeAt(move);
        now.reckon();
        return now.book.moves.size;
    }

    public int moved(int ground, int move, int what) {
        if (!isGround(ground) || !isMoveOrNow(move) || !within(what, PRICE, UNREST)) {
            return NONE;
        }
        return what == PRICE ? now.book.priceBy(ground, move) : now.book.unrestBy(ground, move);
    }

    public int offset(int a, int b, int partsA, int partsB, int side, int rate) {
        int refused = tryOffset(a, b, partsA, partsB, side, rate);
        if (refused != DONE) {
            return refused;
        }
        accept();
        return now.book.offsets.size - 1;
    }

    public int unset(int offset) {
        if (!now.book.offsets.has(offset)) {
            return NONE;
        }
        now.book.offsets.removeAt(offset);
        now.reckon();
        return now.book.offsets.size;
    }

    // ---- legs

    public int trade(int ground, int kind, int expiry, int strike, int q) {
        int refused = tryTrade(ground, kind, expiry, strike, q);
        if (refused != DONE) {
            return refused;
        }
        accept();
        int leg = now.book.legOfInstrument(ground, kind, expiry, strike);
        return leg < 0 ? 0 : now.book.legs.at(leg, LEG_QUANTITY);
    }

    public int find(int ground, int kind, int expiry, int strike) {
        int refused = refusedInstrument(ground, kind, expiry, strike);
        if (refused != DONE) {
            return refused;
        }
        return now.book.legOfInstrument(ground, kind, expiry, strike);
    }

    public long legOf(int leg, int what) {
        if (!now.book.legs.has(leg) || !within(what, LEG_GROUND, LEG_DELTA)) {
            return NO;
        }
        return what == LEG_DELTA ? now.legDelta[leg] : now.book.legs.at(leg, what);
    }

    public int value(int leg, int move) {
        if (!now.book.legs.has(leg) || !isMoveOrNow(move)) {
            return NONE;
        }
        int ground = now.book.legs.at(leg, LEG_GROUND);
        return now.book.worthOf(leg, now.book.priceBy(ground, move), now.book.unrestBy(ground, move));
    }

    public int taken(int leg, int k) {
        if (!now.book.legs.has(leg)) {
            return NONE;
        }
        if (!within(k, 0, KINDS - 1)) {
            return BAD;
        }
        int kind = now.book.legs.at(leg, LEG_KIND);
        if (kind != k && !isUnder(kind, k)) {
            return CAST;
        }
        int price = now.book.grounds.at(now.book.legs.at(leg, LEG_GROUND), PRICE);
        return Book.money(kind, now.book.legs.at(leg, LEG_STRIKE), price);
    }

    public long loss(int leg, int move) {
        if (!now.book.legs.has(leg) || !now.book.moves.has(move)) {
            return NO;
        }
        return now.losses[leg][move];
    }

    public long row(int ground, int move) {
        if (!isGround(ground) || !now.book.moves.has(move)) {
            return NO;
        }
        return now.rows[ground][move];
    }

    // ---- margin

    public long risk(int ground, int what) {
        if (!isGround(ground) || !within(what, 0, 4 + EXPIRIES)) {
            return NO;
        }
        switch (what) {
            case 0:
                return now.scan[ground];
            case 1:
                return now.charge[ground];
            case 2:
                return now.shorts[ground];
            case 3:
                return now.per[ground];
            case 4:
                return now.delta[ground];
            default:
                return now.deltaBy[ground][what - 5];
        }
    }

    public long told(int what) {
        if (within(what, MARGIN, CREDITS)) {
            return now.totals[what];
        }
        switch (what) {
            case 6:
                return now.book.legs.size;
            case 7:
                return now.book.moves.size;
            case 8:
                return now.book.offsets.size;
            default:
                return NO;
        }
    }

    public int order(int k) {
        return now.book.offsets.has(k) ? now.credits.best[k] : NONE;
    }

    public int used(int offset, int what) {
        if (!now.book.offsets.has(offset) || !within(what, 0, 1)) {
            return NONE;
        }
        now.credits.walk(now.credits.best);
        return what == 0 ? now.credits.walkedTimes[offset] : (int) now.credits.walkedCredit[offset];
    }

    public long ordered(int number) {
        if (!now.credits.nameOrder(number)) {
            return NO;
        }
        return now.credits.walk(now.credits.current);
    }

    public long would(int ground, int kind, int expiry, int strike, int q) {
        return tryTrade(ground, kind, expiry, strike, q) == DONE ? thought.totals[MARGIN] : NO;
    }

    public int hedge(int ground, int expiry) {
        if (!isGround(ground) || !within(expiry, 0, EXPIRIES - 1)) {
            return NONE;
        }
        int bestQ = 0;
        long least = now.totals[MARGIN];
        // Tried in the order in which of several the first is to win: 0, -1, 1, -2, 2, ..
        for (int size = 1; size <= MOST_HEDGED; size++) {
            for (int sign = -1; sign <= 1; sign += 2) {
                long margin = would(ground, FUTURE, expiry, 0, sign * size);
                if (margin != NO && margin < least) {
                    least = margin;
                    bestQ = sign * size;
                }
            }
        }
        return bestQ;
    }

    public long share(int ground, int part) {
        long all = now.totals[SCANS];
        if (!isGround(ground) || !within(part, 0, 1) || all <= 0) {
            return NO;
        }
        long common = commonDivisor(all, now.scan[ground]);
        if (common <= 0) {
            return NO;
        }
        return (part == 0 ? now.scan[ground] : all) / common;
    }

    // ---- seen, plans

    public int see(int weight, int margin) {
        Table seen = now.book.seen;
        if (weight == -1) {
            seen.size = 0;
            return 0;
        }
        if (!within(weight, 1, 300) || margin < 0) {
            return BAD;
        }
        int row = seen.grow();
        if (row < 0) {
            return FULL;
        }
        seen.put(row, SEEN_WEIGHT, weight);
        seen.put(row, SEEN_MARGIN, margin);
        return seen.size;
    }

    public int fits(int what) {
        if (!within(what, 0, 1)) {
            return NONE;
        }
        for (int floor = 0; floor < fitting.length; floor++) {
            fitting[floor] = true;
        }
        for (int row = 0; row < now.book.seen.size; row++) {
            sieveFloors(row);
        }
        int many = 0;
        int least = NOT_THERE;
        for (int floor = fitting.length - 1; floor >= 0; floor--) {
            if (fitting[floor]) {
                many++;
                least = floor;
            }
        }
        return what == 0 ? many : least;
    }

    public int plan(int what, int v) {
        Table plan = now.book.plan;
        if (what == -1) {
            plan.size = 0;
            return 0;
        }
        if (!within(what, PLAN_PRICES, PLAN_MOVE)
                || (what == PLAN_LEG && !now.book.legs.has(v))
                || (what == PLAN_MOVE && !now.book.moves.has(v))) {
            return NONE;
        }
        if (what <= PLAN_UNREST && !within(v, -MOST_PLANNED, MOST_PLANNED)) {
            return BAD;
        }
        int row = plan.grow();
        if (row < 0) {
            return FULL;
        }
        plan.put(row, PLAN_WHAT, what);
        plan.put(row, PLAN_V, v);
        return plan.size;
    }

    public long ends() {
        thought.book.copyFrom(now.book);
        thought.book.follow();
        return thought.reckon() ? thought.totals[MARGIN] : NO;
    }

    // ---- texts, judging, the image, tapes

    public int feed(int sign) {
        if (!within(sign, 0, 127)) {
            return BAD;
        }
        return setUp.add(sign) ? setUp.length : FULL;
    }

    public int read() {
        int fault = setUp.parse();
        setUp.length = 0;
        if (fault >= 0) {
            return FAULT - fault;
        }
        int done = 0;
        for (int i = 0; i < setUp.clauses; i++) {
            if (tryClause(setUp.letters[i], setUp.numbers[i]) == DONE) {
                accept();
                done++;
            }
        }
        return done;
    }

    public int judge(int ground, int tape, int i) {
        if (!isGround(ground) || !isTape(tape)) {
            return NONE;
        }
        if (tapes.sorts[tape] != INTS && tapes.sorts[tape] != NO_SORT) {
            return CAST;
        }
        for (int move = 0; move < now.book.moves.size; move++) {
            long place = (long) i + move;
            if (!tapes.has(tape, place)) {
                return ENDED + move;
            }
            if (tapes.items[tape][(int) place] != now.rows[ground][move]) {
                return move;
            }
        }
        return NOT_THERE;
    }

    public int image() {
        kept.copyFrom(now.book);
        hasImage = true;
        return kept.legs.size;
    }

    public int undo() {
        if (!hasImage) {
            return STATE;
        }
        now.book.copyFrom(kept);
        now.reckon();
        return now.book.legs.size;
    }

    public int count(int what) {
        switch (what) {
            case 0:
                return now.book.legs.size;
            case 1:
                return now.book.moves.size;
            case 2:
                return now.book.offsets.size;
            case 3:
                return now.book.seen.size;
            case 4:
                return now.book.plan.size;
            case 5:
                return setUp.length;
            case 6:
                return now.book.unlikeStrikesAndExpiries();
            default:
                return BAD;
        }
    }

    public int tape(int tape, int sort, int n) {
        if (!isTape(tape)) {
            return NONE;
        }
        if (sort == NO_SORT) {
            tapes.empty(tape);
            return 1;
        }
        if (!within(sort, BYTES, BOOLEANS) || n > MOST_ITEMS) {
            return BAD;
        }
        if (n < 0) {
            return SIZE;
        }
        tapes.lay(tape, sort, n);
        return 1;
    }

    public int item(int tape, int i, long v) {
        if (!isTape(tape)) {
            return NONE;
        }
        if (tapes.sorts[tape] == NO_SORT) {
            return NOTHING;
        }
        if (!tapes.has(tape, i)) {
            return PLACE;
        }
        tapes.items[tape][i] = Tapes.cut(tapes.sorts[tape], v);
        return 1;
    }

    public long peek(int tape, int i) {
        return isTape(tape) && tapes.has(tape, i) ? tapes.items[tape][i] : NO;
    }

    public int shift(int tape, int i, int other, int j, int n) {
        if (!isTape(tape) || !isTape(other)) {
            return NONE;
        }
        if (tapes.sorts[tape] == NO_SORT || tapes.sorts[other] == NO_SORT) {
            return NOTHING;
        }
        if (tapes.sorts[tape] != tapes.sorts[other]) {
            return CAST;
        }
        if (!tapes.hasRange(tape, i, n) || !tapes.hasRange(other, j, n)) {
            return PLACE;
        }
        System.arraycopy(tapes.items[tape], i, tapes.items[other], j, n);
        return n;
    }

    // ---- what is tried in thought, and refused there

    private void accept() {
        Reckoning was = now;
        now = thought;
        thought = was;
    }

    private int tryGround(int ground, int what, int v) {
        if (!isGround(ground) || !within(what, 0, GROUND_WIDTH - 1)) {
            return NONE;
        }
        if (!within(v, LEAST[what], MOST[what])) {
            return BAD;
        }
        thought.book.copyFrom(now.book);
        thought.book.grounds.put(ground, what, v);
        return thought.reckon() ? DONE : OVER;
    }

    private int tryMove(int up, int stir, int weight) {
        if (!within(up, -99, 99) || !within(stir, -9, 9) || !within(weight, 1, 100)) {
            return BAD;
        }
        thought.book.copyFrom(now.book);
        Table moves = thought.book.moves;
        int move = moves.grow();
        if (move < 0) {
            return FULL;
        }
        moves.put(move, UP, up);
        moves.put(move, STIR, stir);
        moves.put(move, WEIGHT, weight);
        return thought.reckon() ? DONE : OVER;
    }

    private int tryOffset(int a, int b, int partsA, int partsB, int side, int rate) {
        if (!isGround(a) || !isGround(b) || a == b) {
            return NONE;
        }
        if (!within(partsA, 1, 9) || !within(partsB, 1, 9) || !within(side, 0, 1) || !within(rate, 0, 100)) {
            return BAD;
        }
        thought.book.copyFrom(now.book);
        Table offsets = thought.book.offsets;
        int offset = offsets.grow();
        if (offset < 0) {
            return FULL;
        }
        offsets.put(offset, SIDE_A, a);
        offsets.put(offset, SIDE_B, b);
        offsets.put(offset, PARTS_A, partsA);
        offsets.put(offset, PARTS_B, partsB);
        offsets.put(offset, SIDE, side);
        offsets.put(offset, RATE, rate);
        return thought.reckon() ? DONE : OVER;
    }

    private int tryTrade(int ground, int kind, int expiry, int strike, int q) {
        int refused = refusedInstrument(ground, kind, expiry, strike);
        if (refused != DONE) {
            return refused;
        }
        if (q == 0 || !within(q, -MOST_TRADED, MOST_TRADED)) {
            return BAD;
        }
        thought.book.copyFrom(now.book);
        Table legs = thought.book.legs;
        int leg = thought.book.legOfInstrument(ground, kind, expiry, strike);
        if (leg < 0) {
            leg = legs.grow();
            if (leg < 0) {
                return FULL;
            }
            legs.put(leg, LEG_GROUND, ground);
            legs.put(leg, LEG_KIND, kind);
            legs.put(leg, LEG_EXPIRY, expiry);
            legs.put(leg, LEG_STRIKE, strike);
        }
        long quantity = (long) legs.at(leg, LEG_QUANTITY) + q;
        if (!Gauge.isInt(quantity)) {
            return OVER;
        }
        legs.put(leg, LEG_QUANTITY, (int) quantity);
        legs.dropZeros(LEG_QUANTITY);
        return thought.reckon() ? DONE : OVER;
    }

    private int tryClause(int letter, int[] n) {
        switch (letter) {
            case 't':
                return tryTrade(n[0], n[1], n[2], n[3], n[4]);
            case 'm':
                return tryMove(n[0], n[1], n[2]);
            case 'o':
                return tryOffset(n[0], n[1], n[2], n[3], n[4], n[5]);
            default:
                return tryGround(n[0], PRICE, n[1]);
        }
    }

    /** Leaves of the FLOORS those by which a row of what is SEEN is so. */
    private void sieveFloors(int row) {
        thought.book.copyFrom(now.book);
        // Without FLOORS all else is reckoned once, and each FLOOR is looked at behind it.
        for (int g = 0; g < GROUNDS; g++) {
            thought.book.grounds.put(g, FLOOR, 0);
        }
        boolean told = thought.book.scale(now.book.seen.at(row, SEEN_WEIGHT)) && thought.reckon();
        int margin = now.book.seen.at(row, SEEN_MARGIN);
        for (int floor = 0; floor < fitting.length; floor++) {
            if (!told || thought.marginByFloor(floor) != margin) {
                fitting[floor] = false;
            }
        }
    }

    // ---- what is a number of what

    private static boolean within(int v, int least, int most) {
        return v >= least && v <= most;
    }

    private static boolean isGround(int ground) {
        return within(ground, 0, GROUNDS - 1);
    }

    private static boolean isTape(int tape) {
        return within(tape, 0, TAPES - 1);
    }

    private boolean isMoveOrNow(int move) {
        return move == -1 || now.book.moves.has(move);
    }

    private static boolean isUnder(int kind, int k) {
        return within(kind, 0, KINDS - 1) && UNDER[kind] == k;
    }

    private static int refusedInstrument(int ground, int kind, int expiry, int strike) {
        if (!isGround(ground) || !within(kind, 0, KINDS - 1) || !within(expiry, 0, EXPIRIES - 1)) {
            return NONE;
        }
        return within(strike, 0, kind == FUTURE ? 0 : MOST_STRIKE) ? DONE : BAD;
    }

    private static long commonDivisor(long a, long b) {
        // Behind two rounds the greater one is halved: 100 rounds are beyond all ints.
        for (int round = 0; round < 100 && b != 0; round++) {
            long rest = a % b;
            a = b;
            b = rest;
        }
        return a;
    }

    /** Rows of as many ints each, a limit to how many; those behind one that goes are 1 less. */
    private static final class Table {
        private final int most;
        private final int width;
        private final int[] cells;
        int size;

        Table(int most, int width) {
            this.most = most;
            this.width = width;
            cells = new int[most * width];
            size = 0;
        }

        boolean has(int row) {
            return row >= 0 && row < size;
        }

        int at(int row, int column) {
            int place = row * width + column;
            return place >= 0 && place < cells.length ? cells[place] : 0;
        }

        void put(int row, int column, int v) {
            int place = row * width + column;
            if (place >= 0 && place < cells.length) {
                cells[place] = v;
            }
        }

        /** The number of a new row, all 0; NONE if there are as many as there may be. */
        int grow() {
            if (size >= most) {
                return NONE;
            }
            for (int column = 0; column < width; column++) {
                put(size, column, 0);
            }
            size++;
            return size - 1;
        }

        void removeAt(int row) {
            if (has(row)) {
                System.arraycopy(cells, (row + 1) * width, cells, row * width, (size - 1 - row) * width);
                size--;
            }
        }

        void dropZeros(int column) {
            for (int row = size - 1; row >= 0; row--) {
                if (at(row, column) == 0) {
                    removeAt(row);
                }
            }
        }

        /** Of a table that was made alike. */
        void copyFrom(Table other) {
            if (other.cells.length == cells.length) {
                System.arraycopy(other.cells, 0, cells, 0, other.size * width);
                size = other.size;
            }
        }
    }

    /** All that an image holds. */
    private static final class Book {
        final Table grounds;
        final Table moves;
        final Table offsets;
        final Table legs;
        final Table seen;
        final Table plan;

        Book() {
            grounds = new Table(GROUNDS, GROUND_WIDTH);
            moves = new Table(MOST_MOVES, MOVE_WIDTH);
            offsets = new Table(MOST_OFFSETS, OFFSET_WIDTH);
            legs = new Table(MOST_LEGS, LEG_WIDTH);
            seen = new Table(MOST_SEEN, SEEN_WIDTH);
            plan = new Table(MOST_PLAN, PLAN_WIDTH);
            for (int g = 0; g < GROUNDS; g++) {
                grounds.grow();
                for (int what = 0; what < GROUND_WIDTH; what++) {
                    grounds.put(g, what, AT_FIRST[what]);
                }
            }
        }

        void copyFrom(Book other) {
            grounds.copyFrom(other.grounds);
            moves.copyFrom(other.moves);
            offsets.copyFrom(other.offsets);
            legs.copyFrom(other.legs);
            seen.copyFrom(other.seen);
            plan.copyFrom(other.plan);
        }

        int priceBy(int ground, int move) {
            int price = grounds.at(ground, PRICE);
            if (!moves.has(move)) {
                return price;
            }
            return Math.max(price + moves.at(move, UP) * grounds.at(ground, RANGE) / 10, 1);
        }

        int unrestBy(int ground, int move) {
            int unrest = grounds.at(ground, UNREST);
            return moves.has(move) ? Math.max(unrest + moves.at(move, STIR), 0) : unrest;
        }

        static int money(int kind, int strike, int price) {
            int above = Math.max(price - strike, 0);
            int below = Math.max(strike - price, 0);
            switch (kind) {
                case FUTURE:
                    return price;
                case CALL:
                    return above;
                case PUT:
                    return below;
                case CAPPED:
                    return Math.min(above, MOST_CAPPED);
                default:
                    return below + above;
            }
        }

        int worthOf(int leg, int price, int unrest) {
            int kind = legs.at(leg, LEG_KIND);
            if (kind == FUTURE) {
                return price;
            }
            int strike = legs.at(leg, LEG_STRIKE);
            int reach = unrest * (legs.at(leg, LEG_EXPIRY) + 1);
            return money(kind, strike, price) + Math.max(reach - Math.abs(price - strike), 0) / 2;
        }

        int legOfInstrument(int ground, int kind, int expiry, int strike) {
            for (int leg = 0; leg < legs.size; leg++) {
                if (legs.at(leg, LEG_STRIKE) == strike && legs.at(leg, LEG_GROUND) == ground
                        && legs.at(leg, LEG_KIND) == kind && legs.at(leg, LEG_EXPIRY) == expiry) {
                    return leg;
                }
            }
            return NOT_THERE;
        }

        int unlikeStrikesAndExpiries() {
            int many = 0;
            for (int leg = 0; leg < legs.size; leg++) {
                if (legs.at(leg, LEG_KIND) != FUTURE && isFirstOfItsPair(leg)) {
                    many++;
                }
            }
            return many;
        }

        private boolean isFirstOfItsPair(int leg) {
            for (int other = 0; other < leg; other++) {
                if (legs.at(other, LEG_KIND) != FUTURE
                        && legs.at(other, LEG_STRIKE) == legs.at(leg, LEG_STRIKE)
                        && legs.at(other, LEG_EXPIRY) == legs.at(leg, LEG_EXPIRY)) {
                    return false;
                }
            }
            return true;
        }

        /** Makes each QUANTITY so many hundredths of it; false if one is too great then. */
        boolean scale(int weight) {
            for (int leg = 0; leg < legs.size; leg++) {
                long quantity = (long) legs.at(leg, LEG_QUANTITY) * weight / 100;
                if (!Gauge.isInt(quantity)) {
                    return false;
                }
                legs.put(leg, LEG_QUANTITY, (int) quantity);
            }
            legs.dropZeros(LEG_QUANTITY);
            return true;
        }

        /** Does the PLAN. What goes is marked by 0 and dropped last, as numbers stay meanwhile. */
        void follow() {
            for (int row = 0; row < plan.size; row++) {
                int what = plan.at(row, PLAN_WHAT);
                int v = plan.at(row, PLAN_V);
                if (what == PLAN_PRICES || what == PLAN_UNREST) {
                    shiftGrounds(what == PLAN_PRICES ? PRICE : UNREST, v);
                } else if (what == PLAN_LEG && legs.has(v)) {
                    legs.put(v, LEG_QUANTITY, 0);
                } else if (what == PLAN_MOVE && moves.has(v)) {
                    moves.put(v, WEIGHT, 0);
                }
            }
            legs.dropZeros(LEG_QUANTITY);
            moves.dropZeros(WEIGHT);
        }

        private void shiftGrounds(int what, int v) {
            for (int g = 0; g < GROUNDS; g++) {
                int sum = grounds.at(g, what) + v;
                grounds.put(g, what, Math.max(LEAST[what], Math.min(sum, MOST[what])));
            }
        }
    }

    /** Keeps whether some number wasn't an int's. */
    private static final class Gauge {
        boolean over;

        static boolean isInt(long n) {
            return n >= Integer.MIN_VALUE && n <= Integer.MAX_VALUE;
        }

        /** The number; 0 if it is too great, so that what is reckoned on stays within longs. */
        long fit(long n) {
            if (n < Integer.MIN_VALUE || n > Integer.MAX_VALUE) {
                over = true;
                return 0;
            }
            return n;
        }
    }

    /** A book, and all that is told of it. */
    private static final class Reckoning {
        final Book book;
        final Credits credits;
        final int[][] losses;
        final long[] legDelta;
        final long[][] rows;
        final long[][] deltaBy;
        final long[] delta;
        final long[] scan;
        final long[] charge;
        final long[] shorts;
        final long[] per;
        final long[] totals;
        private final int[][] prices;
        private final int[][] unrests;
        private final long[] left;
        private final Gauge gauge;

        Reckoning() {
            book = new Book();
            credits = new Credits();
            losses = new int[MOST_LEGS][MOST_MOVES];
            legDelta = new long[MOST_LEGS];
            rows = new long[GROUNDS][MOST_MOVES];
            deltaBy = new long[GROUNDS][EXPIRIES];
            delta = new long[GROUNDS];
            scan = new long[GROUNDS];
            charge = new long[GROUNDS];
            shorts = new long[GROUNDS];
            per = new long[GROUNDS];
            totals = new long[TOTALS];
            prices = new int[GROUNDS][MOST_MOVES];
            unrests = new int[GROUNDS][MOST_MOVES];
            left = new long[EXPIRIES];
            gauge = new Gauge();
        }

        /** False if some number is OVER; what is told is of no use then. */
        boolean reckon() {
            gauge.over = false;
            clearGrounds();
            for (int leg = 0; leg < book.legs.size; leg++) {
                addLosses(leg);
                addDelta(leg);
            }
            for (int g = 0; g < GROUNDS; g++) {
                sumGround(g);
            }
            sumAll();
            credits.prepare(book.offsets, delta, per, gauge);
            if (gauge.over) {
                return false;
            }
            Credits.search(credits, 0, 0);
            totals[CREDITS] = gauge.fit(credits.most);
            long net = gauge.fit(totals[SCANS] + totals[CHARGES] - totals[CREDITS]);
            totals[MARGIN] = Math.max(Math.max(net, totals[FLOORS]), totals[WORST]);
            return !gauge.over;
        }

        /** MARGIN if all FLOORS, which are 0, were so; NO if it were OVER. */
        long marginByFloor(int floor) {
            long sum = 0;
            for (int g = 0; g < GROUNDS; g++) {
                sum += shorts[g] * floor;
            }
            return Gauge.isInt(sum) ? Math.max(totals[MARGIN], sum) : NO;
        }

        private void clearGrounds() {
            for (int g = 0; g < GROUNDS; g++) {
                shorts[g] = 0;
                for (int move = 0; move < book.moves.size; move++) {
                    rows[g][move] = 0;
                    prices[g][move] = book.priceBy(g, move);
                    unrests[g][move] = book.unrestBy(g, move);
                }
                for (int e = 0; e < EXPIRIES; e++) {
                    deltaBy[g][e] = 0;
                }
            }
        }

        private void addLosses(int leg) {
            if (book.moves.size == 0) {
                // The first product is of a LOSS: without MOVES there is none that could be OVER.
                return;
            }
            int g = book.legs.at(leg, LEG_GROUND);
            int asItIs = book.worthOf(leg, book.grounds.at(g, PRICE), book.grounds.at(g, UNREST));
            long lots = gauge.fit((long) book.legs.at(leg, LEG_QUANTITY) * book.grounds.at(g, LOT));
            for (int move = 0; move < book.moves.size; move++) {
                int less = asItIs - book.worthOf(leg, prices[g][move], unrests[g][move]);
                long loss = gauge.fit(gauge.fit(lots * less) * book.moves.at(move, WEIGHT)) / 100;
                losses[leg][move] = (int) loss;
                rows[g][move] += loss;
            }
        }

        private void addDelta(int leg) {
            int g = book.legs.at(leg, LEG_GROUND);
            int price = book.grounds.at(g, PRICE);
            int unrest = book.grounds.at(g, UNREST);
            long quantity = book.legs.at(leg, LEG_QUANTITY);
            int below = Math.max(price - 1, 0);
            int more = book.worthOf(leg, price + 1, unrest) - book.worthOf(leg, below, unrest);
            legDelta[leg] = gauge.fit(gauge.fit(quantity * 5) * more);
            deltaBy[g][book.legs.at(leg, LEG_EXPIRY)] += legDelta[leg];
            if (quantity < 0 && book.legs.at(leg, LEG_KIND) != FUTURE) {
                shorts[g] -= quantity;
            }
        }

        private void sumGround(int g) {
            long greatest = 0;
            for (int move = 0; move < book.moves.size; move++) {
                rows[g][move] = gauge.fit(rows[g][move]);
                greatest = Math.max(greatest, rows[g][move]);
            }
            scan[g] = greatest;
            long sum = 0;
            for (int e = 0; e < EXPIRIES; e++) {
                sum += deltaBy[g][e];
                deltaBy[g][e] = fitWithoutSign(deltaBy[g][e]);
            }
            delta[g] = fitWithoutSign(sum);
            shorts[g] = gauge.fit(shorts[g]);
            charge[g] = chargesOf(g);
            long tenfold = gauge.fit(10 * scan[g]);
            per[g] = delta[g] == 0 ? 0 : tenfold / Math.abs(delta[g]);
        }

        private long fitWithoutSign(long n) {
            return n < 0 ? -gauge.fit(-n) : gauge.fit(n);
        }

        private long chargesOf(int g) {
            System.arraycopy(deltaBy[g], 0, left, 0, EXPIRIES);
            long spread = book.grounds.at(g, SPREAD);
            long sum = 0;
            for (int gap = 1; gap < EXPIRIES; gap++) {
                for (int e = 0; e + gap < EXPIRIES; e++) {
                    long m = gauge.fit(gauge.fit(paired(e, e + gap) * spread) * gap) / 10;
                    sum += m;
                }
            }
            return gauge.fit(sum);
        }

        /** Takes from both EXPIRIES what of their DELTAS is of unlike signs: how much. */
        private long paired(int e, int f) {
            if (left[e] < 0 && left[f] > 0) {
                long m = Math.min(-left[e], left[f]);
                left[e] += m;
                left[f] -= m;
                return m;
            }
            if (left[e] > 0 && left[f] < 0) {
                long m = Math.min(left[e], -left[f]);
                left[e] -= m;
                left[f] += m;
                return m;
            }
            return 0;
        }

        private void sumAll() {
            long scans = 0;
            long charges = 0;
            long floors = 0;
            for (int g = 0; g < GROUNDS; g++) {
                scans += scan[g];
                charges += charge[g];
                floors += gauge.fit(shorts[g] * book.grounds.at(g, FLOOR));
            }
            totals[SCANS] = gauge.fit(scans);
            totals[CHARGES] = gauge.fit(charges);
            totals[FLOORS] = gauge.fit(floors);
            gauge.fit(scans + charges);
            long worst = 0;
            for (int move = 0; move < book.moves.size; move++) {
                long sum = 0;
                for (int g = 0; g < GROUNDS; g++) {
                    sum += rows[g][move];
                }
                worst = Math.max(worst, gauge.fit(sum));
            }
            totals[WORST] = worst;
        }
    }

    /** What OFFSETS are worth, one order or another, and the order that is worth most. */
    private static final class Credits {
        int count;
        final int[] best;
        final int[] current;
        final int[] walkedTimes;
        final long[] walkedCredit;
        long most;
        private final int[] a;
        private final int[] b;
        private final int[] tenA;
        private final int[] tenB;
        private final long[] pay;
        private final int[] rate;
        private final boolean[] suits;
        private final boolean[] gone;
        private final long[] atFirst;
        private final long[] left;

        Credits() {
            best = new int[MOST_OFFSETS];
            current = new int[MOST_OFFSETS];
            walkedTimes = new int[MOST_OFFSETS];
            walkedCredit = new long[MOST_OFFSETS];
            a = new int[MOST_OFFSETS];
            b = new int[MOST_OFFSETS];
            tenA = new int[MOST_OFFSETS];
            tenB = new int[MOST_OFFSETS];
            pay = new long[MOST_OFFSETS];
            rate = new int[MOST_OFFSETS];
            suits = new boolean[MOST_OFFSETS];
            gone = new boolean[MOST_OFFSETS];
            atFirst = new long[GROUNDS];
            left = new long[GROUNDS];
        }

        /**
         * Takes what all orders share. No CREDIT is greater than that of its OFFSET at the head of
         * an order: so what of single ones is OVER in any order is so here.
         */
        void prepare(Table offsets, long[] delta, long[] per, Gauge gauge) {
            count = offsets.size;
            most = -1;
            for (int g = 0; g < GROUNDS; g++) {
                atFirst[g] = Math.abs(delta[g]);
                left[g] = atFirst[g];
            }
            for (int o = 0; o < count; o++) {
                a[o] = offsets.at(o, SIDE_A);
                b[o] = offsets.at(o, SIDE_B);
                tenA[o] = 10 * offsets.at(o, PARTS_A);
                tenB[o] = 10 * offsets.at(o, PARTS_B);
                rate[o] = offsets.at(o, RATE);
                gone[o] = false;
                suits[o] = areSo(delta[a[o]], delta[b[o]], offsets.at(o, SIDE));
                pay[o] = 0;
                if (suits[o]) {
                    long ofA = gauge.fit(offsets.at(o, PARTS_A) * per[a[o]]);
                    pay[o] = gauge.fit(ofA + gauge.fit(offsets.at(o, PARTS_B) * per[b[o]]));
                    gauge.fit(gauge.fit(timesOf(o) * pay[o]) * rate[o]);
                }
            }
        }

        private static boolean areSo(long deltaA, long deltaB, int side) {
            boolean alike = (deltaA > 0) == (deltaB > 0);
            return deltaA != 0 && deltaB != 0 && alike == (side == 1);
        }

        /** How many times an OFFSET can be used by what is left. */
        private long timesOf(int o) {
            if (!suits[o] || tenA[o] <= 0 || tenB[o] <= 0) {
                return 0;
            }
            return Math.min(left[a[o]] / tenA[o], left[b[o]] / tenB[o]);
        }

        private long creditOf(int o, long times) {
            return times * pay[o] * rate[o] / 100;
        }

        private void take(int o, long times) {
            left[a[o]] -= times * tenA[o];
            left[b[o]] -= times * tenB[o];
        }

        /** CREDITS of those that are not used yet can't be more than this. */
        private long hoped() {
            long sum = 0;
            for (int o = 0; o < count; o++) {
                if (!gone[o]) {
                    sum += creditOf(o, timesOf(o));
                }
            }
            return sum;
        }

        /**
         * Looks at the orders that begin as they do up to the depth, the least first: of several
         * that are worth most the first one is kept.
         */
        private static void search(Credits c, int depth, long soFar) {
            if (depth >= c.count) {
                if (soFar > c.most) {
                    c.most = soFar;
                    System.arraycopy(c.current, 0, c.best, 0, c.count);
                }
                return;
            }
            if (soFar + c.hoped() <= c.most) {
                return;
            }
            for (int o = 0; o < c.count; o++) {
                if (!c.gone[o]) {
                    long times = c.timesOf(o);
                    c.gone[o] = true;
                    c.take(o, times);
                    c.current[depth] = o;
                    search(c, depth + 1, soFar + c.creditOf(o, times));
                    c.take(o, -times);
                    c.gone[o] = false;
                }
            }
        }

        /** CREDITS by an order; what each OFFSET has of it is kept. */
        long walk(int[] order) {
            System.arraycopy(atFirst, 0, left, 0, GROUNDS);
            long sum = 0;
            for (int k = 0; k < count; k++) {
                int o = order[k];
                long times = timesOf(o);
                take(o, times);
                walkedTimes[o] = (int) times;
                walkedCredit[o] = creditOf(o, times);
                sum += walkedCredit[o];
            }
            return sum;
        }

        /** Makes the order of a number the current one; false if there is none such. */
        boolean nameOrder(int number) {
            if (number < 0 || count >= ORDERS.length || number >= ORDERS[count]) {
                return false;
            }
            int rest = number;
            for (int k = 0; k < count; k++) {
                int block = ORDERS[count - 1 - k];
                if (block <= 0) {
                    return false;
                }
                current[k] = nextFree(k, rest / block);
                rest %= block;
            }
            return true;
        }

        /** Of the OFFSETS that are none of the first k of the current order the one behind so many. */
        private int nextFree(int k, int behind) {
            int free = 0;
            for (int o = 0; o < count; o++) {
                boolean isNamed = false;
                for (int i = 0; i < k; i++) {
                    isNamed = isNamed || current[i] == o;
                }
                if (!isNamed) {
                    if (free == behind) {
                        return o;
                    }
                    free++;
                }
            }
            return 0;
        }
    }

    /** THE TEXT, and the CLAUSES read from it. */
    private static final class SetUp {
        int length;
        int clauses;
        final int[] letters;
        final int[][] numbers;
        private final int[] signs;
        private int place;

        SetUp() {
            length = 0;
            clauses = 0;
            letters = new int[MOST_CLAUSES];
            numbers = new int[MOST_CLAUSES][MOST_NUMBERS];
            signs = new int[MOST_SIGNS];
            place = 0;
        }

        boolean add(int sign) {
            if (length >= signs.length) {
                return false;
            }
            signs[length] = sign;
            length++;
            return true;
        }

        /** The FAULT, or -1. */
        int parse() {
            place = 0;
            clauses = 0;
            for (int round = 0; round < MOST_CLAUSES; round++) {
                if (!parseClause(round)) {
                    return place;
                }
                clauses++;
                if (place >= length) {
                    return -1;
                }
                if (clauses == MOST_CLAUSES || !skip(';')) {
                    return place;
                }
            }
            return place;
        }

        private boolean parseClause(int clause) {
            String form = place < length ? formOf(signs[place]) : "";
            if (form.isEmpty()) {
                return false;
            }
            letters[clause] = signs[place];
            place++;
            int filled = 0;
            boolean negative = false;
            for (int i = 0; i < form.length(); i++) {
                char part = form.charAt(i);
                if (part == '-') {
                    negative = skip('-');
                } else if (part == '.') {
                    if (!skip('.')) {
                        return false;
                    }
                } else {
                    int n = parseNumber(part - '0');
                    if (n < 0 || filled >= MOST_NUMBERS) {
                        return false;
                    }
                    numbers[clause][filled] = negative ? -n : n;
                    filled++;
                    negative = false;
                }
            }
            return true;
        }

        private static String formOf(int letter) {
            switch (letter) {
                case 't':
                    return TRADE_FORM;
                case 'm':
                    return MOVE_FORM;
                case 'o':
                    return OFFSET_FORM;
                case 'p':
                    return PRICE_FORM;
                default:
                    return "";
            }
        }

        private boolean skip(int sign) {
            if (place >= length || signs[place] != sign) {
                return false;
            }
            place++;
            return true;
        }

        /** A number of 1 digit up to so many; -1 if there is none. */
        private int parseNumber(int mostDigits) {
            int n = -1;
            for (int i = 0; i < mostDigits && place < length; i++) {
                int digit = signs[place] - '0';
                if (digit < 0 || digit > 9) {
                    return n;
                }
                n = Math.max(n, 0) * 10 + digit;
                place++;
            }
            return n;
        }
    }

    /** TAPES: the items of all sorts are held as longs, cut to their sort as they come. */
    private static final class Tapes {
        final int[] sorts;
        final long[][] items;
        private final int[] sizes;

        Tapes() {
            sorts = new int[TAPES];
            items = new long[TAPES][MOST_ITEMS];
            sizes = new int[TAPES];
            for (int tape = 0; tape < TAPES; tape++) {
                sorts[tape] = NO_SORT;
            }
        }

        void empty(int tape) {
            sorts[tape] = NO_SORT;
            sizes[tape] = 0;
        }

        void lay(int tape, int sort, int n) {
            sorts[tape] = sort;
            sizes[tape] = n;
            for (int i = 0; i < n; i++) {
                items[tape][i] = 0;
            }
        }

        boolean has(int tape, long i) {
            return i >= 0 && i < sizes[tape];
        }

        boolean hasRange(int tape, int i, int n) {
            return i >= 0 && n >= 0 && (long) i + n <= sizes[tape];
        }

        static long cut(int sort, long v) {
            switch (sort) {
                case BYTES:
                    return (byte) v;
                case SHORTS:
                    return (short) v;
                case INTS:
                    return (int) v;
                case LONGS:
                    return v;
                default:
                    return v != 0 ? 1 : 0;
            }
        }
    }
}
