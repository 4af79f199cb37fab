/** States to begin with, and one look at all that can be asked; both together are less than 512 calls. */
final class Look {
    private final LegHedge x;
    private final StringBuilder seen = new StringBuilder();

    private Look(LegHedge x) {
        this.x = x;
    }

    static void feed(LegHedge x, String text) {
        for (int i = 0; i < text.length(); i++) {
            x.feed(text.charAt(i));
        }
    }

    /** What read() answers to a text alone. */
    static int read(LegHedge x, String text) {
        feed(x, text);
        return x.read();
    }

    /** Something of all there is, an image of less, a text that can be read. */
    static LegHedge rich() {
        LegHedge x = new LegHedge();
        x.ground(0, 5, 3);
        x.move(10, 0, 100);
        x.trade(0, 0, 0, 0, 10);
        x.offset(2, 4, 1, 1, 0, 7);
        x.plan(0, 9);
        x.image();
        x.unset(0);
        x.ground(1, 2, 2);
        x.ground(2, 0, 90);
        x.ground(3, 4, 7);
        x.move(-10, 3, 80);
        x.trade(0, 0, 2, 0, -4);
        x.trade(1, 0, 1, 0, -7);
        x.trade(1, 1, 1, 105, -3);
        x.trade(2, 4, 0, 88, -2);
        x.trade(3, 0, 0, 0, -6);
        x.offset(0, 1, 1, 1, 0, 60);
        x.offset(0, 3, 2, 1, 0, 40);
        x.see(100, (int) x.told(0));
        x.plan(2, 1);
        feed(x, "p4.5");
        x.tape(0, 2, 3);
        x.tape(1, 3, 3);
        x.tape(2, 2, 2);
        for (int i = 0; i < 3; i++) {
            x.item(0, i, 70 + i);
            x.item(1, i, 80 + i);
            x.item(2, i, 90 + i);
        }
        return x;
    }

    /** All answers in one text. The object is of no use behind it: its text is read, its image comes back. */
    static String at(LegHedge x) {
        Look look = new Look(x);
        look.numbers();
        look.byMoves();
        look.orders();
        look.tapes();
        look.is("fits", x.fits(0));
        look.is("fits", x.fits(1));
        look.is("ends", x.ends());
        look.is("read", x.read());
        look.is("price", x.groundOf(4, 0));
        look.is("undo", x.undo());
        look.numbers();
        look.is("ends", x.ends());
        return look.seen.toString();
    }

    private void is(String what, long answer) {
        seen.append(what).append(' ').append(answer).append('\n');
    }

    private void numbers() {
        for (int what = 0; what <= 8; what++) {
            is("told", x.told(what));
        }
        for (int what = 0; what <= 6; what++) {
            is("count", x.count(what));
        }
        for (int g = 0; g < 5; g++) {
            for (int what = 0; what < 6; what++) {
                is("groundOf", x.groundOf(g, what));
            }
        }
        int legs = (int) x.told(6);
        for (int leg = 0; leg < legs; leg++) {
            for (int what = 0; what < (legs > 9 ? 5 : 6); what++) {
                is("legOf", x.legOf(leg, what));
            }
        }
    }

    private void byMoves() {
        int moves = (int) x.told(7);
        for (int move = 0; move < moves; move++) {
            for (int g = 0; g < 5; g++) {
                is("price", x.moved(g, move, 0));
                is("row", x.row(g, move));
            }
            is("unrest", x.moved(0, move, 1));
        }
        for (int g = 0; g < 4; g++) {
            for (int what = 0; what < 5; what++) {
                is("risk", x.risk(g, what));
            }
        }
    }

    private void orders() {
        int offsets = (int) x.told(8);
        for (int o = 0; o < offsets; o++) {
            is("order", x.order(o));
            is("k", x.used(o, 0));
            is("credit", x.used(o, 1));
        }
        is("ordered", x.ordered(0));
        is("ordered", x.ordered(1));
    }

    private void tapes() {
        for (int tape = 0; tape < 4; tape++) {
            for (int i = 0; i < 4; i++) {
                is("peek", x.peek(tape, i));
            }
            is("sort", x.shift(0, 0, tape, 0, 0));
        }
    }
}
