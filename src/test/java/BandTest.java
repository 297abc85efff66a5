/** Promises 14, 15, 16: band, suits, move. */
public final class BandTest {
    public static void main(String[] args) {
        wrongBands();
        whichBandCounts();
        suits();
        move();
        moveLimits();
        Check.finish();
    }

    private static void wrongBands() {
        CheeseCellar x = new CheeseCellar();
        int[][] wrong = {{-1, 0, 0, 9}, {3, 0, 0, 9}, {0, -1, 0, 9}, {0, 1001, 0, 9}, {0, 0, -1, 9}, {0, 0, 0, 10},
            {0, 0, 5, 4}, {0, 0, 10, 10}, {0, 0, -2, -1}, {0, 0, 0, Integer.MAX_VALUE}};
        for (int[] w : wrong) {
            Check.due("band of kind " + w[0], x.band(w[0], w[1], w[2], w[3]), -1);
        }
        for (int i = 1; i <= 4; i++) {
            Check.due("band " + i, x.band(2, 1000, 9, 9), i);
            Check.due("band " + i, x.band(0, 0, 0, 0), i);
        }
        Check.due("a fifth band", x.band(2, 0, 0, 0), -1);
        Check.due("of another kind", x.band(1, 0, 0, 0), 1);
    }

    private static void whichBandCounts() {
        CheeseCellar x = new CheeseCellar();
        x.milk(1, 100);
        for (int air = 0; air <= 9; air++) {
            x.air(air, air);
        }
        Check.small(x, 1, 0);
        x.band(0, 0, 9, 9);
        fits(x, 0, 9);
        x.band(1, 5, 2, 3);
        fits(x, 0, 9);
        x.band(1, 2, 4, 6);
        fits(x, 0, 9);
        x.days(2);
        fits(x, 4, 6);
        x.days(2);
        fits(x, 4, 6);
        x.days(1);
        fits(x, 2, 3);
        x.band(1, 5, 7, 7);
        fits(x, 7, 7);
        x.band(1, 2, 0, 0);
        fits(x, 7, 7);
        x.days(100);
        fits(x, 7, 7);
    }

    private static void fits(CheeseCellar x, int least, int most) {
        for (int air = 0; air <= 9; air++) {
            int want = air >= least && air <= most ? 1 : 0;
            Check.due("suits(0, " + air + ") at " + x.of(0, 5), x.suits(0, air), want);
        }
        Check.due("of(0, 7)", x.of(0, 7), least == 0 ? 1 : 0);
    }

    private static void suits() {
        CheeseCellar x = new CheeseCellar();
        x.milk(1, 100);
        Check.due("suits(0, 0)", x.suits(0, 0), -1);
        Check.small(x, 0, 0);
        Check.due("suits(0, 0)", x.suits(0, 0), 1);
        Check.due("suits(0, 23)", x.suits(0, 23), 1);
        Check.due("suits(0, 24)", x.suits(0, 24), -1);
        Check.due("suits(0, -1)", x.suits(0, -1), -1);
        Check.due("suits(-1, 0)", x.suits(-1, 0), -1);
        Check.due("suits(1, 0)", x.suits(1, 0), -1);
        x.sell(0);
        Check.due("suits(0, 0) of a sold one", x.suits(0, 0), -1);
    }

    private static void move() {
        CheeseCellar x = new CheeseCellar();
        x.milk(1, 100);
        Check.small(x, 0, 0);
        Check.small(x, 0, 1);
        Check.small(x, 0, 1);
        Check.small(x, 0, 1);
        Check.due("move(0, 0)", x.move(0, 0), false);
        Check.due("move(0, 24)", x.move(0, 24), false);
        Check.due("move(0, -1)", x.move(0, -1), false);
        Check.due("move(4, 1)", x.move(4, 1), false);
        Check.due("move(-1, 1)", x.move(-1, 1), false);
        Check.due("about(5)", x.about(5), 4);
        Check.due("move(0, 1)", x.move(0, 1), true);
        Check.due("of(0, 1)", x.of(0, 1), 1);
        Check.due("about(5)", x.about(5), 5);
        Check.small(x, 0, 0);
        Check.due("move(4, 1) without room", x.move(4, 1), false);
        Check.due("of(4, 1)", x.of(4, 1), 0);
        Check.due("move(2, 23)", x.move(2, 23), true);
        Check.due("move(4, 1) with room", x.move(4, 1), true);
        // a shelf need not suit a wheel that is moved
        x.band(0, 0, 9, 9);
        Check.due("move(0, 5)", x.move(0, 5), true);
        x.sell(0);
        Check.due("move(0, 6) of a sold one", x.move(0, 6), false);
        x.days(1);
        Check.due("side goes on", x.of(1, 6), 1);
    }

    private static void moveLimits() {
        CheeseCellar x = new CheeseCellar();
        x.milk(1, 100);
        Check.small(x, 0, 0);
        for (int i = 1; i < 200; i++) {
            Check.due("move " + i, x.move(0, i % 2), true);
        }
        Check.due("about(5)", x.about(5), 200);
        Check.due("reached(0) with all stays", x.reached(0), 1);
        Check.due("a 200th move", x.move(0, 0), false);
        Check.due("of(0, 1)", x.of(0, 1), 1);
        Check.due("a wheel without a stay left", Check.small(x, 0, 0), -1);
        Check.due("litres", x.from(0, 1), 99);
        Check.due("sell", x.sell(0), true);
        Check.due("about(5)", x.about(5), 200);
        Check.due("a wheel without a stay left", Check.small(x, 0, 0), -1);
    }
}
