/** Promises 23, 24, 25: beside, reached, about. */
public final class BesideTest {
    public static void main(String[] args) {
        nights();
        sold();
        otherShelves();
        wrong();
        reached();
        reachedIsOneStep();
        about();
        Check.finish();
    }

    private static void both(CheeseCellar x, int a, int b, int want) {
        Check.due("beside(" + a + ", " + b + ")", x.beside(a, b), want);
        Check.due("beside(" + b + ", " + a + ")", x.beside(b, a), want);
    }

    private static void nights() {
        CheeseCellar x = new CheeseCellar();
        x.milk(1, 100);
        Check.small(x, 0, 3);
        Check.small(x, 0, 3);
        both(x, 0, 1, 0);
        x.days(0);
        both(x, 0, 1, 0);
        x.days(1);
        both(x, 0, 1, 1);
        // a wheel that came and left within a day was beside nobody
        Check.small(x, 0, 3);
        x.move(2, 4);
        x.days(1);
        both(x, 0, 2, 0);
        // one leaves, another comes on that day
        Check.small(x, 0, 5);
        x.days(3);
        x.move(3, 6);
        Check.small(x, 0, 5);
        x.days(3);
        both(x, 3, 4, 0);
        x.move(3, 5);
        both(x, 3, 4, 0);
        x.days(1);
        both(x, 3, 4, 1);
        x.move(3, 6);
        both(x, 3, 4, 1);
    }

    private static void sold() {
        CheeseCellar x = new CheeseCellar();
        x.milk(1, 100);
        Check.small(x, 0, 3);
        Check.small(x, 0, 3);
        x.sell(0);
        x.days(5);
        both(x, 0, 1, 0);
        Check.small(x, 0, 3);
        x.days(1);
        x.sell(1);
        x.days(5);
        both(x, 1, 2, 1);
        both(x, 0, 2, 0);
    }

    private static void otherShelves() {
        CheeseCellar x = new CheeseCellar();
        x.milk(1, 100);
        Check.small(x, 0, 3);
        Check.small(x, 0, 4);
        x.days(1);
        x.move(0, 4);
        x.move(1, 3);
        x.days(1);
        // both were on both shelves, never at once
        both(x, 0, 1, 0);
        x.move(0, 3);
        x.days(1);
        both(x, 0, 1, 1);
    }

    private static void wrong() {
        CheeseCellar x = new CheeseCellar();
        x.milk(1, 100);
        Check.small(x, 0, 3);
        x.days(1);
        both(x, 0, 0, -1);
        both(x, 0, 1, -1);
        both(x, 0, -1, -1);
        both(x, 0, 64, -1);
        both(x, 7, 7, -1);
        Check.due("reached(1)", x.reached(1), -1);
        Check.due("reached(-1)", x.reached(-1), -1);
        Check.due("reached(32)", x.reached(32), -1);
        Check.due("reached(0)", x.reached(0), 1);
    }

    private static void reached() {
        CheeseCellar x = new CheeseCellar();
        x.milk(1, 100);
        x.milk(2, 100);
        x.milk(3, 100);
        x.wheel(0, 0, 0, 1, -1, 0, -1, 0);
        x.wheel(0, 0, 1, 1, -1, 0, -1, 0);
        x.wheel(0, 5, 1, 1, 0, 1, -1, 0);
        x.wheel(0, 6, 1, 1, -1, 0, -1, 0);
        Check.due("reached(0)", x.reached(0), 0b0101);
        Check.due("reached(1)", x.reached(1), 0b1110);
        Check.due("reached(2)", x.reached(2), 0);
        x.days(1);
        Check.due("reached(0)", x.reached(0), 0b0111);
        Check.due("reached(1)", x.reached(1), 0b1111);
        Check.due("reached(2)", x.reached(2), 0);
        x.sell(0);
        x.sell(1);
        Check.due("reached(0) with sold ones", x.reached(0), 0b0111);
        for (int i = 4; i < 40; i++) {
            Check.due("wheel", x.wheel(0, i % 17 + 7, 2, 1, -1, 0, -1, 0), i);
        }
        Check.due("reached(2)", x.reached(2), (1L << 40) - 16);
        x.move(39, 6);
        x.days(1);
        Check.due("reached(1)", x.reached(1), 0b1111L | 1L << 39);
    }

    private static void reachedIsOneStep() {
        CheeseCellar x = new CheeseCellar();
        x.milk(1, 100);
        x.milk(2, 100);
        x.wheel(0, 0, 0, 1, -1, 0, -1, 0);
        x.wheel(0, 0, 1, 1, -1, 0, -1, 0);
        x.wheel(0, 1, 1, 1, -1, 0, -1, 0);
        x.days(1);
        x.move(1, 1);
        x.days(1);
        both(x, 1, 2, 1);
        Check.due("reached(0)", x.reached(0), 0b011);
    }

    private static void about() {
        CheeseCellar x = new CheeseCellar();
        x.milk(1, 100);
        x.milk(1, 100);
        Check.small(x, 0, 0);
        Check.small(x, 0, 0);
        Check.small(x, 0, 0);
        x.move(0, 1);
        x.sell(1);
        x.days(9);
        x.mark(0, 0, 0);
        Check.give(x, "when 1 do turn;when 1 do turn;");
        x.feed(0, 0, 0, 0, 0);
        int[] want = {9, 2, 3, 2, 1, 4, 20};
        for (int what = 0; what < want.length; what++) {
            Check.due("about(" + what + ")", x.about(what), want[what]);
        }
        Check.due("about(7)", x.about(7), -1);
        Check.due("about(-1)", x.about(-1), -1);
        Check.due("about(MAX)", x.about(Integer.MAX_VALUE), -1);
    }
}
