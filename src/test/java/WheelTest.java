/** Promises 4, 5, 6, 12, 13: milk, wheel, sell, of, from. */
public final class WheelTest {
    public static void main(String[] args) {
        milk();
        wheelFromMilks();
        wheelThatCannotBe();
        wheelLimits();
        sell();
        ofAndFrom();
        Check.finish();
    }

    private static void milk() {
        CheeseCellar x = new CheeseCellar();
        int[][] wrong = {{-1, 5}, {100, 5}, {0, 0}, {0, -1}, {0, 1001}, {Integer.MAX_VALUE, 1}, {1, Integer.MIN_VALUE}};
        for (int[] w : wrong) {
            Check.due("milk(" + w[0] + ", " + w[1] + ")", x.milk(w[0], w[1]), -1);
        }
        for (int i = 0; i < 30; i++) {
            Check.due("milk " + i, x.milk(i == 0 ? 0 : 99, i == 0 ? 1 : 1000), i);
        }
        Check.due("a 31st milk", x.milk(1, 1), -1);
        Check.due("about(1)", x.about(1), 30);
        Check.due("from(0, 1)", x.from(0, 1), 1);
        Check.due("from(29, 0)", x.from(29, 0), 99);
        Check.due("from(30, 0)", x.from(30, 0), -1);
        Check.due("reached(30)", x.reached(30), -1);
    }

    private static void wheelFromMilks() {
        CheeseCellar x = new CheeseCellar();
        x.milk(1, 1000);
        x.milk(2, 1000);
        x.milk(3, 1000);
        Check.due("three milks", x.wheel(2, 23, 2, 1000, 0, 1, 1, 7), 0);
        Check.due("weight", x.of(0, 4), 100800);
        Check.due("left of 2", x.from(2, 1), 0);
        Check.due("left of 0", x.from(0, 1), 999);
        Check.due("left of 1", x.from(1, 1), 993);
        Check.due("a and c", x.wheel(0, 0, 0, 1, -1, 1, 1, 1), 1);
        Check.due("made of 1", x.from(1, 2), 2);
        Check.due("made of 2", x.from(2, 2), 1);
        Check.due("litres of none", x.wheel(0, 0, 0, 1, -1, -5, -1, Integer.MIN_VALUE), 2);
        Check.due("weight", x.of(2, 4), 100);
        Check.due("all that is left", x.wheel(0, 0, 0, 997, -1, 0, -1, 0), 3);
        Check.due("left of 0", x.from(0, 1), 0);
    }

    private static void wheelThatCannotBe() {
        CheeseCellar x = new CheeseCellar();
        x.milk(1, 10);
        x.milk(2, 10);
        x.milk(3, 10);
        int[][] wrong = {
            {-1, 0, 0, 1, -1, 0, -1, 0}, {3, 0, 0, 1, -1, 0, -1, 0}, {0, -1, 0, 1, -1, 0, -1, 0},
            {0, 24, 0, 1, -1, 0, -1, 0}, {0, 0, 3, 1, -1, 0, -1, 0}, {0, 0, -1, 1, 0, 1, -1, 0},
            {0, 0, -2, 1, -1, 0, -1, 0}, {0, 0, 0, 0, -1, 0, -1, 0}, {0, 0, 0, -1, -1, 0, -1, 0},
            {0, 0, 0, 11, -1, 0, -1, 0}, {0, 0, 0, 1, 0, 1, -1, 0}, {0, 0, 0, 1, 1, 1, 0, 1},
            {0, 0, 0, 1, 1, 1, 1, 1}, {0, 0, 0, 1, 3, 1, -1, 0}, {0, 0, 0, 1, -2, 1, -1, 0},
            {0, 0, 0, 1, 1, 0, -1, 0}, {0, 0, 0, 1, 1, 11, -1, 0}, {0, 0, 0, 1, 1, 1, 2, 0},
            {0, 0, 0, 1, 1, 1, 2, 11}, {0, 0, 0, 1, 1, 1, 3, 1}, {0, 0, 0, 1, 1, 1, Integer.MIN_VALUE, 1},
            {0, 0, 0, Integer.MAX_VALUE, -1, 0, -1, 0}, {0, 0, -1, 0, -1, 0, -1, 0}};
        for (int i = 0; i < wrong.length; i++) {
            int[] w = wrong[i];
            Check.due("wrong wheel " + i, x.wheel(w[0], w[1], w[2], w[3], w[4], w[5], w[6], w[7]), -1);
        }
        for (int i = 0; i < 3; i++) {
            Check.due("left", x.from(i, 1), 10);
            Check.due("made", x.from(i, 2), 0);
        }
        Check.due("wheels", x.about(2), 0);
        Check.due("stays", x.about(5), 0);
    }

    private static void wheelLimits() {
        CheeseCellar x = new CheeseCellar();
        x.milk(1, 1000);
        for (int i = 0; i < 4; i++) {
            Check.due("wheel on shelf 3", Check.small(x, 0, 3), i);
        }
        Check.due("no room on shelf 3", Check.small(x, 0, 3), -1);
        x.sell(2);
        Check.due("room again", Check.small(x, 0, 3), 4);
        Check.due("no room again", Check.small(x, 0, 3), -1);
        for (int i = 5; i < 40; i++) {
            Check.due("wheel " + i, Check.small(x, 0, i % 20 + 4), i);
        }
        Check.due("a 41st wheel", Check.small(x, 0, 0), -1);
        x.sell(0);
        Check.due("a 41st wheel", Check.small(x, 0, 0), -1);
        Check.due("wheels", x.about(2), 40);
        Check.due("of(40, 0)", x.of(40, 0), -1);
        Check.due("sell(40)", x.sell(40), false);
        Check.due("beside(40, 0)", x.beside(40, 0), -1);
        Check.due("litres left", x.from(0, 1), 960);
    }

    private static void sell() {
        CheeseCellar x = new CheeseCellar();
        x.milk(1, 100);
        x.air(0, 3);
        x.damp(0, 99);
        Check.small(x, 0, 0);
        Check.due("sell(-1)", x.sell(-1), false);
        Check.due("sell(1)", x.sell(1), false);
        x.days(4);
        int[] before = new int[8];
        for (int what = 0; what < 8; what++) {
            before[what] = x.of(0, what);
        }
        Check.due("sell(0)", x.sell(0), true);
        Check.due("sell(0) again", x.sell(0), false);
        x.days(5);
        Check.due("kind", x.of(0, 0), before[0]);
        Check.due("shelf", x.of(0, 1), -1);
        Check.due("ripeness", x.of(0, 2), before[2]);
        Check.due("mould", x.of(0, 3), before[3]);
        Check.due("weight", x.of(0, 4), before[4]);
        Check.due("age goes on", x.of(0, 5), 9);
        Check.due("side", x.of(0, 6), 4);
        Check.due("suited", x.of(0, 7), 0);
        Check.due("suits(0, 0)", x.suits(0, 0), -1);
        Check.due("move(0, 1)", x.move(0, 1), false);
    }

    private static void ofAndFrom() {
        CheeseCellar x = new CheeseCellar();
        x.milk(42, 100);
        x.days(3);
        Check.small(x, 2, 13);
        x.air(13, 5);
        x.days(7);
        int[] want = {2, 13, 14, 5, 65, 7, 7, 1, -1};
        for (int what = 0; what < want.length; what++) {
            Check.due("of(0, " + what + ")", x.of(0, what), want[what]);
        }
        Check.due("of(0, -1)", x.of(0, -1), -1);
        Check.due("of(1, 0)", x.of(1, 0), -1);
        Check.due("of(-1, 0)", x.of(-1, 0), -1);
        x.band(2, 8, 6, 9);
        Check.due("of(0, 7) at 7", x.of(0, 7), 1);
        x.days(1);
        Check.due("of(0, 7) at 8", x.of(0, 7), 0);
        Check.due("from(0, 0)", x.from(0, 0), 42);
        Check.due("from(0, 1)", x.from(0, 1), 99);
        Check.due("from(0, 2)", x.from(0, 2), 1);
        Check.due("from(0, 3)", x.from(0, 3), -1);
        Check.due("from(0, -1)", x.from(0, -1), -1);
        Check.due("from(1, 0)", x.from(1, 0), -1);
        Check.due("from(-1, 0)", x.from(-1, 0), -1);
    }
}
