/** Part 1 of the document, and promises 1 to 6, 12, 13, 25: one test for each sentence that names an edge. */
public final class Part1EdgesTest {
    public static void main(String[] args) {
        newObject();
        shelves();
        aisles();
        airAtFirst();
        airEdges();
        airRefused();
        roomFilledByWheels();
        roomFilledByMoves();
        roomGivenBack();
        dampAtFirst();
        dampEdges();
        dampRefused();
        dayAtFirst();
        milkEdges();
        milkRefused();
        thirtyMilks();
        fortyWheels();
        kinds();
        oneToThreeMilks();
        differentMilks();
        litresOneOrMore();
        litresLeft();
        litresOfNoMilk();
        weightAtFirst();
        ageAtFirst();
        wheelRefused();
        sold();
        sellRefused();
        ofEdges();
        ofSold();
        fromEdges();
        fromAnEmptyCellar();
        aboutEdges();
        aboutFullRows();
        Check.finish();
    }

    /** An order shows what a name is worth: it washes wheel 0, which lies under air 0. */
    private static void holds(CheeseCellar x, String e) {
        int before = x.of(0, 4);
        Check.give(x, "when " + e + " do wash;");
        x.days(1);
        Check.due("weight behind a wash when " + e, x.of(0, 4), before + 5);
    }

    private static CheeseCellar withMilk() {
        CheeseCellar x = new CheeseCellar();
        x.milk(1, 1000);
        return x;
    }

    private static void newObject() {
        Check.says("An empty cellar.");
        CheeseCellar x = new CheeseCellar();
        for (int what = 0; what <= 6; what++) {
            Check.due("about(" + what + ")", x.about(what), 0);
        }
        Check.due("milk 0", x.from(0, 0), -1);
        Check.due("wheel 0", x.of(0, 0), -1);
        Check.due("reached(0)", x.reached(0), -1);
        Check.due("grade(0, 0)", x.grade(0, 0), -1);
        Check.due("beside(0, 1)", x.beside(0, 1), -1);
        Check.due("untell(0)", x.untell(0), false);
        Check.due("sell(0)", x.sell(0), false);
        Check.due("move(0, 1)", x.move(0, 1), false);
        Check.due("suits(0, 0)", x.suits(0, 0), -1);
        Check.due("planned(0)", x.planned(0), -1);
        Check.due("carry()", x.carry(), -1);
        Check.due("a wheel without a milk", Check.small(x, 0, 0), -1);
        // what one object was told, another doesn't know
        withMilk();
        Check.due("milks", x.about(1), 0);
    }

    private static void shelves() {
        Check.says("THE CELLAR has SHELVES 0 .. 23");
        CheeseCellar x = withMilk();
        Check.small(x, 0, 7);
        for (int shelf = 0; shelf <= 23; shelf++) {
            Check.due("air of " + shelf, x.air(shelf, 1), true);
            Check.due("wheel on " + shelf, Check.small(x, 0, shelf), shelf + 1);
            Check.due("suits(0, " + shelf + ")", x.suits(0, shelf), 1);
            Check.due("move to " + shelf, x.move(0, shelf), true);
        }
        for (int shelf : Check.outside(23)) {
            Twin.busy().refuses("air(" + shelf + ", 5)", c -> c.air(shelf, 5));
            Twin.busy().refuses("wheel on " + shelf, c -> Check.small(c, 0, shelf), -1);
            Twin.busy().refuses("suits(0, " + shelf + ")", c -> c.suits(0, shelf), -1);
            Twin.busy().refuses("move(0, " + shelf + ")", c -> c.move(0, shelf));
        }
    }

    private static void aisles() {
        Check.says("SHELF s is number s % 6 of AISLE s / 6");
        for (int aisle = 0; aisle <= 3; aisle++) {
            CheeseCellar x = withMilk();
            Check.due("damp(" + aisle + ", 99)", x.damp(aisle, 99), true);
            for (int shelf = 0; shelf <= 23; shelf++) {
                Check.small(x, 1, shelf);
            }
            x.days(1);
            for (int shelf = 0; shelf <= 23; shelf++) {
                boolean within = shelf >= 6 * aisle && shelf <= 6 * aisle + 5;
                Check.due("mould on " + shelf + ", damp in " + aisle, x.of(shelf, 3), within ? 4 : 0);
                Check.due("ripeness on " + shelf + ", damp in " + aisle, x.of(shelf, 2), within ? 5 : 2);
            }
        }
    }

    private static void airAtFirst() {
        Check.says("AIR (.. 0 at first)");
        for (int shelf = 0; shelf <= 23; shelf++) {
            CheeseCellar x = withMilk();
            Check.small(x, 0, shelf);
            holds(x, "air=0");
            Check.due("weight", x.of(0, 4), 105);
        }
    }

    private static void airEdges() {
        Check.says("AIR (0 .. 9");
        for (int air = 0; air <= 9; air++) {
            CheeseCellar x = withMilk();
            Check.small(x, 0, 23);
            x.air(23, 9 - air);
            Check.due("air(23, " + air + ")", x.air(23, air), true);
            Check.give(x, "when air=" + air + " do wash;");
            x.days(1);
            Check.due("weight under air " + air, x.of(0, 4), 105 - air);
        }
    }

    private static void airRefused() {
        Check.says("AIR of a SHELF: true; false, doing nothing, if one can't be.");
        for (int air : Check.outside(9)) {
            Twin.busy().refuses("air(0, " + air + ")", x -> x.air(0, air));
            Twin.busy().refuses("air(1, " + air + ")", x -> x.air(1, air));
            Twin.busy().refuses("air(-1, " + air + ")", x -> x.air(-1, air));
        }
        Twin.busy().refuses("air(24, 0)", x -> x.air(24, 0));
        Twin.busy().refuses("air(-1, 0)", x -> x.air(-1, 0));
    }

    private static void roomFilledByWheels() {
        Check.says("each has .. room for 4 WHEELS");
        for (int shelf = 0; shelf <= 23; shelf++) {
            CheeseCellar x = withMilk();
            for (int i = 0; i < 4; i++) {
                Check.due("wheel " + i + " on " + shelf, Check.small(x, i % 3, shelf), i);
            }
            Check.due("a fifth on " + shelf, Check.small(x, 0, shelf), -1);
            Check.due("wheels", x.about(2), 4);
            Check.due("litres", x.from(0, 1), 996);
            Check.due("on another", Check.small(x, 0, (shelf + 1) % 24), 4);
        }
    }

    private static void roomFilledByMoves() {
        Check.says("A MOVE takes a WHEEL to another SHELF with room.");
        for (int shelf = 0; shelf <= 23; shelf++) {
            CheeseCellar x = withMilk();
            int home = (shelf + 6) % 24;
            for (int i = 0; i < 4; i++) {
                Check.small(x, 0, home);
            }
            Check.small(x, 0, (shelf + 1) % 24);
            for (int i = 0; i < 4; i++) {
                Check.due("move(" + i + ", " + shelf + ")", x.move(i, shelf), true);
            }
            Check.due("move(4, " + shelf + ") to a full one", x.move(4, shelf), false);
            Check.due("its shelf", x.of(4, 1), (shelf + 1) % 24);
            Check.due("a wheel on a full one", Check.small(x, 0, shelf), -1);
            Check.due("stays", x.about(5), 9);
            Check.due("the shelf that they left has room", Check.small(x, 0, home), 5);
        }
    }

    private static void roomGivenBack() {
        Check.says("It may be SOLD: then it lies nowhere");
        for (int shelf = 0; shelf <= 23; shelf++) {
            CheeseCellar x = withMilk();
            for (int i = 0; i < 4; i++) {
                Check.small(x, 0, shelf);
            }
            x.sell(3);
            Check.due("a place is free on " + shelf, Check.small(x, 0, shelf), 4);
            Check.due("one place alone", Check.small(x, 0, shelf), -1);
            x.sell(0);
            x.sell(0);
            Check.small(x, 0, (shelf + 1) % 24);
            Check.due("free for a move", x.move(5, shelf), true);
            Check.due("selling twice frees one place", Check.small(x, 0, shelf), -1);
        }
    }

    private static void dampAtFirst() {
        Check.says("An AISLE has DAMP (.. 0 at first).");
        for (int aisle = 0; aisle <= 3; aisle++) {
            CheeseCellar x = withMilk();
            Check.small(x, 1, 6 * aisle);
            holds(x, "damp=0");
            Check.due("mould", x.of(0, 3), 0);
        }
    }

    private static void dampEdges() {
        Check.says("DAMP (0 .. 99");
        for (int damp : new int[] {0, 1, 98, 99}) {
            for (int aisle = 0; aisle <= 3; aisle++) {
                CheeseCellar x = withMilk();
                Check.small(x, 1, 6 * aisle + 5);
                x.damp(aisle, 50);
                Check.due("damp(" + aisle + ", " + damp + ")", x.damp(aisle, damp), true);
                holds(x, "damp=" + damp);
            }
        }
    }

    private static void dampRefused() {
        Check.says("DAMP of an AISLE: likewise.");
        for (int damp : Check.outside(99)) {
            Twin.busy().refuses("damp(0, " + damp + ")", x -> x.damp(0, damp));
            Twin.busy().refuses("damp(4, " + damp + ")", x -> x.damp(4, damp));
        }
        for (int aisle : Check.outside(3)) {
            Twin.busy().refuses("damp(" + aisle + ", 7)", x -> x.damp(aisle, 7));
        }
    }

    private static void dayAtFirst() {
        Check.says("The DAY is 0 at first.");
        CheeseCellar x = withMilk();
        Check.due("about(0)", x.about(0), 0);
        Check.small(x, 0, 0);
        holds(x, "day=0");
        Check.due("about(0)", x.about(0), 1);
    }

    private static void milkEdges() {
        Check.says("MILKS .. have a FARM (0 .. 99) and LITRES (1 .. 1000).");
        CheeseCellar x = new CheeseCellar();
        int[][] good = {{0, 1}, {0, 1000}, {99, 1}, {99, 1000}, {1, 2}, {98, 999}};
        for (int i = 0; i < good.length; i++) {
            Check.due("milk(" + good[i][0] + ", " + good[i][1] + ")", x.milk(good[i][0], good[i][1]), i);
            Check.due("its farm", x.from(i, 0), good[i][0]);
            Check.due("its litres", x.from(i, 1), good[i][1]);
            Check.due("its wheels", x.from(i, 2), 0);
        }
    }

    private static void milkRefused() {
        Check.says("A MILK: its number; NONE, doing nothing, if it can't be");
        for (int farm : Check.outside(99)) {
            Twin.busy().refuses("milk(" + farm + ", 5)", x -> x.milk(farm, 5), -1);
        }
        for (int litres : Check.outside(1, 1000)) {
            Twin.busy().refuses("milk(5, " + litres + ")", x -> x.milk(5, litres), -1);
        }
    }

    private static void thirtyMilks() {
        Check.says("MILKS, 30 at most");
        CheeseCellar x = new CheeseCellar();
        for (int i = 0; i < 30; i++) {
            Check.due("milk " + i, x.milk(i, i + 1), i);
        }
        Check.due("the last one's farm", x.from(29, 0), 29);
        Check.due("a wheel from the last one", x.wheel(0, 0, 29, 30, 0, 1, -1, 0), 0);
        Check.due("a wheel from one that there is not", x.wheel(0, 0, 30, 1, -1, 0, -1, 0), -1);
        Check.due("reached(29)", x.reached(29), 1);
        Check.due("reached(28)", x.reached(28), 0);
        // a milk that is used up is still one of the thirty
        new Twin(y -> {
            for (int i = 0; i < 30; i++) {
                y.milk(i, 10);
            }
            y.wheel(0, 0, 29, 10, -1, 0, -1, 0);
        }).refuses("a 31st milk", y -> y.milk(5, 5), -1);
    }

    private static void fortyWheels(CheeseCellar x) {
        x.milk(1, 1000);
        for (int i = 0; i < 40; i++) {
            Check.due("wheel " + i, Check.small(x, i % 3, i % 20), i);
        }
    }

    private static void fortyWheels() {
        Check.says("A WHEEL (40 at most; numbered from 0 on)");
        CheeseCellar x = new CheeseCellar();
        fortyWheels(x);
        Check.due("kind of the last one", x.of(39, 0), 0);
        Check.due("shelf of the last one", x.of(39, 1), 19);
        Check.due("mark of the last one", x.mark(0, 39, 7), 0);
        Check.due("grade of the last one", x.grade(39, 0), 7);
        Check.due("suits the last one", x.suits(39, 0), 1);
        Check.due("move of the last one", x.move(39, 23), true);
        Check.due("sale of the last one", x.sell(39), true);
        Check.due("mark of a 41st", x.mark(0, 40, 7), -1);
        Check.due("of(40, 0)", x.of(40, 0), -1);
        Check.due("move(40, 23)", x.move(40, 23), false);
        Check.due("sell(40)", x.sell(40), false);
        Check.due("suits(40, 0)", x.suits(40, 0), -1);
        Check.due("grade(40, 0)", x.grade(40, 0), -1);
        Check.due("beside(39, 40)", x.beside(39, 40), -1);
        new Twin(Part1EdgesTest::fortyWheels).refuses("a 41st wheel", y -> Check.small(y, 0, 23), -1);
        new Twin(y -> {
            fortyWheels(y);
            y.sell(3);
        }).refuses("a 41st wheel behind a sale", y -> Check.small(y, 0, 3), -1);
    }

    private static void kinds() {
        Check.says("a KIND (0 SOFT, 1 WASHED, 2 HARD)");
        for (int kind = 0; kind <= 2; kind++) {
            CheeseCellar x = withMilk();
            Check.due("wheel of kind " + kind, Check.small(x, kind, 0), 0);
            Check.due("its kind", x.of(0, 0), kind);
        }
        for (int kind : Check.outside(2)) {
            Twin.busy().refuses("wheel of kind " + kind, x -> Check.small(x, kind, 5), -1);
        }
    }

    private static CheeseCellar withThreeMilks() {
        CheeseCellar x = new CheeseCellar();
        x.milk(1, 10);
        x.milk(2, 20);
        x.milk(3, 30);
        return x;
    }

    private static void left(CheeseCellar x, int a, int b, int c) {
        Check.due("left of milk 0", x.from(0, 1), a);
        Check.due("left of milk 1", x.from(1, 1), b);
        Check.due("left of milk 2", x.from(2, 1), c);
    }

    private static void oneToThreeMilks() {
        Check.says("from one to three .. MILKS");
        CheeseCellar x = withThreeMilks();
        Check.due("of one", x.wheel(0, 0, 2, 1, -1, 0, -1, 0), 0);
        left(x, 10, 20, 29);
        Check.due("of two, a and b", x.wheel(0, 0, 0, 2, 2, 3, -1, 0), 1);
        left(x, 8, 20, 26);
        Check.due("of two, a and c", x.wheel(0, 0, 1, 4, -1, 0, 0, 5), 2);
        left(x, 3, 16, 26);
        Check.due("of three", x.wheel(0, 0, 2, 1, 1, 2, 0, 3), 3);
        left(x, 0, 14, 25);
        Check.due("weight of the last", x.of(3, 4), 600);
        Check.due("wheels of milk 0", x.from(0, 2), 3);
        Check.due("wheels of milk 1", x.from(1, 2), 2);
        Check.due("wheels of milk 2", x.from(2, 2), 3);
        Check.due("of none", x.wheel(0, 1, -1, 1, -1, 1, -1, 1), -1);
        Twin.busy().refuses("of none", y -> y.wheel(0, 5, -1, 0, -1, 0, -1, 0), -1);
        Twin.busy().refuses("of b alone", y -> y.wheel(0, 5, -1, 1, 0, 1, -1, 0), -1);
        Twin.busy().refuses("of c alone", y -> y.wheel(0, 5, -1, 1, -1, 0, 0, 1), -1);
    }

    private static void differentMilks() {
        Check.says("from one to three different MILKS");
        int[][] same = {{0, 0, -1}, {0, -1, 0}, {0, 0, 0}, {0, 1, 0}, {0, 1, 1}, {0, 0, 1}, {2, 2, -1}};
        for (int[] m : same) {
            String name = "milks " + m[0] + ", " + m[1] + ", " + m[2];
            Twin.busy().refuses(name, x -> x.wheel(0, 5, m[0], 1, m[1], 1, m[2], 1), -1);
        }
        for (int milk : new int[] {Integer.MIN_VALUE, -2, 3, 4, 30, 32, Integer.MAX_VALUE}) {
            Twin.busy().refuses("a = " + milk, x -> x.wheel(0, 5, milk, 1, -1, 0, -1, 0), -1);
            Twin.busy().refuses("b = " + milk, x -> x.wheel(0, 5, 0, 1, milk, 1, -1, 0), -1);
            Twin.busy().refuses("c = " + milk, x -> x.wheel(0, 5, 0, 1, 1, 1, milk, 1), -1);
        }
    }

    private static void litresOneOrMore() {
        Check.says("some LITRES (1 or more) of each");
        Check.due("1 of each", withThreeMilks().wheel(0, 0, 0, 1, 1, 1, 2, 1), 0);
        for (int litres : new int[] {0, -1, -2, Integer.MIN_VALUE}) {
            Twin.busy().refuses(litres + " of a", x -> x.wheel(0, 5, 0, litres, -1, 0, -1, 0), -1);
            Twin.busy().refuses(litres + " of b", x -> x.wheel(0, 5, 0, 1, 1, litres, -1, 0), -1);
            Twin.busy().refuses(litres + " of c", x -> x.wheel(0, 5, 0, 1, 1, 1, 2, litres), -1);
        }
    }

    private static void litresLeft() {
        Check.says("out of what is left of these");
        CheeseCellar x = withThreeMilks();
        Check.due("all of each", x.wheel(0, 0, 0, 10, 1, 20, 2, 30), 0);
        left(x, 0, 0, 0);
        Check.due("of nothing left", x.wheel(0, 0, 0, 1, -1, 0, -1, 0), -1);
        // in the busy cellar 17, 1 and 9 litres are left
        Check.due("all that is left", Twin.busyCellar().wheel(0, 5, 0, 17, 1, 1, 2, 9), 4);
        for (int more : new int[] {1, 2, 1000}) {
            Twin.busy().refuses("too much of a", y -> y.wheel(0, 5, 0, 17 + more, -1, 0, -1, 0), -1);
            Twin.busy().refuses("too much of b", y -> y.wheel(0, 5, 0, 1, 1, 1 + more, -1, 0), -1);
            Twin.busy().refuses("too much of c", y -> y.wheel(0, 5, 0, 1, 1, 1, 2, 9 + more), -1);
        }
        Twin.busy().refuses("MAX of a", y -> y.wheel(0, 5, 0, Integer.MAX_VALUE, -1, 0, -1, 0), -1);
    }

    private static void litresOfNoMilk() {
        Check.says("(and b, c; NONE: not)");
        for (int litres : new int[] {Integer.MIN_VALUE, -1, 0, 1, 9, 1001, Integer.MAX_VALUE}) {
            CheeseCellar x = withThreeMilks();
            Check.due("b NONE with " + litres, x.wheel(0, 0, 0, 2, -1, litres, 2, 3), 0);
            Check.due("b and c NONE with " + litres, x.wheel(0, 0, 0, 1, -1, litres, -1, litres), 1);
            Check.due("c NONE with " + litres, x.wheel(0, 0, 0, 1, 1, 1, -1, litres), 2);
            left(x, 6, 19, 27);
            Check.due("weight", x.of(0, 4), 500);
            Check.due("weight", x.of(1, 4), 100);
            Check.due("weight", x.of(2, 4), 200);
        }
    }

    private static void weightAtFirst() {
        Check.says("Its WEIGHT is 100 for each litre, its RIPENESS, MOULD 0.");
        CheeseCellar x = new CheeseCellar();
        x.milk(0, 1000);
        x.milk(0, 1000);
        x.milk(0, 1000);
        x.milk(0, 1);
        Check.due("the greatest wheel", x.wheel(0, 0, 0, 1000, 1, 1000, 2, 1000), 0);
        Check.due("the least wheel", x.wheel(0, 0, 3, 1, -1, 0, -1, 0), 1);
        Check.due("the greatest weight", x.of(0, 4), 300000);
        Check.due("the least weight", x.of(1, 4), 100);
        for (int wheel = 0; wheel <= 1; wheel++) {
            Check.due("ripeness", x.of(wheel, 2), 0);
            Check.due("mould", x.of(wheel, 3), 0);
            Check.due("side", x.of(wheel, 6), 0);
        }
    }

    private static void ageAtFirst() {
        Check.says("Its AGE is how many days ago it was made.");
        CheeseCellar x = withMilk();
        x.days(7);
        Check.small(x, 0, 0);
        Check.due("on its day", x.of(0, 5), 0);
        x.days(0);
        Check.due("on its day", x.of(0, 5), 0);
        x.days(1);
        Check.small(x, 0, 0);
        Check.due("a day later", x.of(0, 5), 1);
        Check.due("the later one", x.of(1, 5), 0);
        x.move(0, 5);
        x.days(400);
        Check.due("moved meanwhile", x.of(0, 5), 401);
        Check.due("the later one", x.of(1, 5), 400);
    }

    private static void wheelRefused() {
        Check.says("NONE, doing nothing, if it can't be, or there are 40.");
        // a milk before the wrong one keeps its litres
        Twin.busy().refuses("a good a, a wrong c", x -> x.wheel(0, 5, 0, 1, 1, 1, 9, 1), -1);
        Twin.busy().refuses("a wrong kind", x -> x.wheel(3, 5, 0, 1, -1, 0, -1, 0), -1);
        Twin.busy().refuses("a wrong shelf", x -> x.wheel(0, 24, 0, 1, -1, 0, -1, 0), -1);
        new Twin(x -> {
            x.milk(1, 10);
            for (int i = 0; i < 4; i++) {
                Check.small(x, 0, 0);
            }
            x.plan();
        }).refuses("a full shelf", x -> Check.small(x, 0, 0), -1);
    }

    private static void sold() {
        Check.says("nothing changes of it any more");
        CheeseCellar x = withMilk();
        x.air(0, 4);
        x.damp(0, 80);
        Check.small(x, 0, 0);
        Check.small(x, 0, 0);
        Check.give(x, "when 1 do brush;");
        x.days(5);
        int[] before = new int[7];
        for (int what = 0; what <= 6; what++) {
            before[what] = x.of(1, what);
        }
        x.sell(1);
        Check.give(x, "when 1 do wash;when side>2 do turn;");
        x.days(6);
        for (int what : new int[] {0, 2, 3, 4, 6}) {
            Check.due("of(1, " + what + ")", x.of(1, what), before[what]);
        }
        Check.due("the other one ripens on", x.of(0, 2), 44);
        Check.due("its shelf", x.of(1, 1), -1);
        Check.due("its milk", x.from(0, 1), 998);
        Check.due("wheels of its milk", x.from(0, 2), 2);
        Check.due("wheels", x.about(2), 2);
    }

    private static void sellRefused() {
        Check.says("true; false, doing nothing, if it is so already, or there is none such.");
        Twin.busy().refuses("sell(2) of a sold one", x -> x.sell(2));
        for (int wheel : Check.outside(3)) {
            Twin.busy().refuses("sell(" + wheel + ")", x -> x.sell(wheel));
        }
        Twin.busy().refuses("sell(40)", x -> x.sell(40));
        CheeseCellar x = withMilk();
        Check.small(x, 0, 0);
        Check.due("the first sale", x.sell(0), true);
        Check.due("the second", x.sell(0), false);
        x.days(1);
        Check.due("the next day", x.sell(0), false);
    }

    private static void ofEdges() {
        Check.says("Of a WHEEL what 0 .. 7. NONE if there is none such.");
        CheeseCellar x = withMilk();
        Check.small(x, 2, 9);
        int[] want = {2, 9, 0, 0, 100, 0, 0, 1};
        for (int what = 0; what <= 7; what++) {
            Check.due("of(0, " + what + ")", x.of(0, what), want[what]);
            for (int wheel : Check.outside(0)) {
                Check.due("of(" + wheel + ", " + what + ")", x.of(wheel, what), -1);
            }
        }
        for (int what : Check.outside(7)) {
            Check.due("of(0, " + what + ")", x.of(0, what), -1);
        }
    }

    private static void ofSold() {
        Check.says("1: its SHELF (NONE: SOLD) .. 7: 1 if its SHELF SUITS it, 0 if not (or it is SOLD)");
        CheeseCellar x = withMilk();
        Check.small(x, 0, 0);
        Check.small(x, 0, 23);
        Check.due("shelf 0 is no NONE", x.of(0, 1), 0);
        Check.due("shelf 23", x.of(1, 1), 23);
        Check.due("suited", x.of(1, 7), 1);
        x.band(0, 0, 1, 9);
        Check.due("not suited", x.of(1, 7), 0);
        x.air(23, 1);
        Check.due("suited", x.of(1, 7), 1);
        x.sell(1);
        Check.due("sold: no shelf", x.of(1, 1), -1);
        Check.due("sold: not suited", x.of(1, 7), 0);
    }

    private static void fromEdges() {
        Check.says("Of a MILK what 0: FARM, 1: LITRES left, 2: how many WHEELS were made from it. NONE if there is none such.");
        CheeseCellar x = new CheeseCellar();
        x.milk(42, 50);
        Check.small(x, 0, 0);
        Check.small(x, 0, 0);
        int[] want = {42, 48, 2};
        for (int what = 0; what <= 2; what++) {
            Check.due("from(0, " + what + ")", x.from(0, what), want[what]);
            for (int milk : Check.outside(0)) {
                Check.due("from(" + milk + ", " + what + ")", x.from(milk, what), -1);
            }
        }
        for (int what : Check.outside(2)) {
            Check.due("from(0, " + what + ")", x.from(0, what), -1);
        }
    }

    private static void fromAnEmptyCellar() {
        Check.says("NONE if there is none such.");
        CheeseCellar x = new CheeseCellar();
        for (int number = -1; number <= 1; number++) {
            for (int what = -1; what <= 8; what++) {
                Check.due("of(" + number + ", " + what + ")", x.of(number, what), -1);
                Check.due("from(" + number + ", " + what + ")", x.from(number, what), -1);
            }
        }
    }

    private static void aboutEdges() {
        Check.says("NONE for another what.");
        CheeseCellar x = withMilk();
        for (int what : Check.outside(6)) {
            Check.due("about(" + what + ")", x.about(what), -1);
        }
    }

    private static void aboutFullRows() {
        Check.says("What 0: the DAY, 1: MILKS, 2: WHEELS, 3: lines of ORDERS, 4: MARKS, 5: STAYS, 6: bytes on the TAPE.");
        CheeseCellar x = new CheeseCellar();
        for (int i = 0; i < 30; i++) {
            x.milk(1, 100);
        }
        for (int i = 0; i < 40; i++) {
            Check.small(x, 0, i % 20);
        }
        for (int i = 0; i < 160; i++) {
            x.move(0, 22 + i % 2);
        }
        for (int i = 0; i < 100; i++) {
            x.mark(0, 0, 0);
        }
        Check.give(x, "when 1 do turn;".repeat(8));
        for (int i = 0; i < 25; i++) {
            x.feed(0, 0, 0, 0, 0);
        }
        x.days(400);
        int[] want = {400, 30, 40, 8, 100, 200, 500};
        for (int what = 0; what <= 6; what++) {
            Check.due("about(" + what + ")", x.about(what), want[what]);
        }
        x.milk(1, 1);
        Check.small(x, 0, 21);
        x.move(0, 21);
        x.mark(0, 0, 0);
        x.feed(0, 0, 0, 0, 0);
        x.days(401);
        for (int what = 0; what <= 6; what++) {
            Check.due("about(" + what + ") behind refused calls", x.about(what), want[what]);
        }
    }
}
