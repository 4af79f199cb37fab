/** Edges: what a call answers on a state made anew for it, and that a refused one changes nothing. */
final class Edge {
    static final long NO = Long.MIN_VALUE;
    static final int NONE = -1, BAD = -2, STATE = -3, FULL = -4, NOT_THERE = -5, NOTHING = -11, CAST = -12;
    static final int PLACE = -13, SIZE = -14, OVER = -15;
    static final int LOW = Integer.MIN_VALUE, HIGH = Integer.MAX_VALUE;

    interface State {
        LegHedge make();
    }

    interface Call {
        long on(LegHedge x);
    }

    final Due due = new Due();

    void part(String name) {
        due.part(name);
    }

    void is(String call, long got, long want) {
        due.is(call, got, want);
    }

    /** The call answers so, and all that can be asked stands as it stood. */
    void same(String call, State state, long want, Call asked) {
        LegHedge x = state.make();
        due.is(call, asked.on(x), want);
        due.holds(call + " changes nothing", Look.at(x).equals(Look.at(state.make())));
    }

    /** The call is refused so where there is much of all. */
    void refused(String call, long want, Call asked) {
        same(call, Look::rich, want, asked);
    }

    void end() {
        due.end();
    }
}
