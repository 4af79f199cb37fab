/** The calls of README.md, line by line, with the answers that it tells. */
public final class ReadmeTest {
    private ReadmeTest() {
    }

    public static void main(String[] args) {
        Due due = new Due();
        due.part("README");
        LegHedge x = new LegHedge();
        margins(due, x);
        seenAndPlanned(due, x);
        textAndImage(due, x);
        judged(due, x);
        due.end();
    }

    private static void margins(Due due, LegHedge x) {
        due.is("move up", x.move(10, 0, 100), 0);
        due.is("move down", x.move(-10, 0, 100), 1);
        due.is("ten bought", x.trade(0, 0, 0, 0, 10), 10);
        due.is("ten sold", x.trade(1, 0, 0, 0, -10), -10);
        due.is("margin", x.told(0), 200);
        due.is("hedge", x.hedge(0, 0), -10);
        due.is("offset", x.offset(0, 1, 1, 1, 0, 50), 0);
        due.is("margin", x.told(0), 100);
        due.is("would", x.would(0, 0, 0, 0, -5), 100);
    }

    private static void seenAndPlanned(Due due, LegHedge x) {
        due.is("see", x.see(200, 200), 1);
        due.is("fits", x.fits(0), 10);
        due.is("plan", x.plan(2, 1), 1);
        due.is("ends", x.ends(), 100);
    }

    private static void textAndImage(Due due, LegHedge x) {
        due.is("image", x.image(), 2);
        int fed = 0;
        for (char sign : "p0.120;t010.125.-4".toCharArray()) {
            fed++;
            due.is("feed", x.feed(sign), fed);
        }
        due.is("signs", fed, 18);
        due.is("read", x.read(), 2);
        due.is("PRICE", x.groundOf(0, 0), 120);
        due.is("QUANTITY", x.legOf(x.find(0, 1, 0, 125), 4), -4);
        due.is("undo", x.undo(), 2);
        due.is("PRICE", x.groundOf(0, 0), 100);
    }

    private static void judged(Due due, LegHedge x) {
        due.is("tape", x.tape(0, 2, 2), 1);
        due.is("item", x.item(0, 0, -100), 1);
        due.is("item", x.item(0, 1, 90), 1);
        due.is("judge", x.judge(0, 0, 0), 1);
        due.is("row", x.row(0, 1), 100);
    }
}
