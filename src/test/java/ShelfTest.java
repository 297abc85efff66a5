/** Promises 2 and 3: air and damp. */
public final class ShelfTest {
    public static void main(String[] args) {
        air();
        damp();
        Check.finish();
    }

    private static void air() {
        CheeseCellar x = new CheeseCellar();
        int[] shelves = {-1, 24, 6, Integer.MIN_VALUE, Integer.MAX_VALUE};
        for (int shelf : shelves) {
            Check.due("air(" + shelf + ", 5)", x.air(shelf, 5), shelf == 6);
        }
        Check.due("air(23, 9)", x.air(23, 9), true);
        Check.due("air(0, 0)", x.air(0, 0), true);
        Check.due("air(6, 10)", x.air(6, 10), false);
        Check.due("air(6, -1)", x.air(6, -1), false);
        x.milk(1, 100);
        Check.small(x, 0, 6);
        Check.small(x, 0, 23);
        Check.small(x, 0, 7);
        x.days(1);
        Check.due("weight under air 5", x.of(0, 4), 95);
        Check.due("weight under air 9", x.of(1, 4), 91);
        Check.due("weight under air 0", x.of(2, 4), 100);
        Check.due("ripe by 3 + 5 / 3", x.of(0, 2), 4);
        Check.due("ripe by 3 + 9 / 3", x.of(1, 2), 6);
    }

    private static void damp() {
        CheeseCellar x = new CheeseCellar();
        Check.due("damp(1, 40)", x.damp(1, 40), true);
        Check.due("damp(3, 99)", x.damp(3, 99), true);
        Check.due("damp(0, 0)", x.damp(0, 0), true);
        Check.due("damp(4, 0)", x.damp(4, 0), false);
        Check.due("damp(-1, 0)", x.damp(-1, 0), false);
        Check.due("damp(1, 100)", x.damp(1, 100), false);
        Check.due("damp(1, -1)", x.damp(1, -1), false);
        x.milk(1, 100);
        int[] shelves = {5, 6, 11, 12, 18, 23};
        int[] mould = {0, 2, 2, 0, 4, 4};
        int[] ripe = {2, 3, 3, 2, 5, 5};
        for (int i = 0; i < shelves.length; i++) {
            Check.small(x, 1, shelves[i]);
        }
        x.days(1);
        for (int i = 0; i < shelves.length; i++) {
            Check.due("mould on shelf " + shelves[i], x.of(i, 3), mould[i]);
            Check.due("ripeness on shelf " + shelves[i], x.of(i, 2), ripe[i]);
        }
    }
}
