/** Promise 11: days, and what a day does (part 3 of the document). */
public final class DaysTest {
    public static void main(String[] args) {
        counts();
        lastDay();
        ripening();
        deeds();
        linesInOrder();
        floors();
        ceilings();
        Check.finish();
    }

    private static void counts() {
        CheeseCellar x = new CheeseCellar();
        Check.due("days(0)", x.days(0), 0);
        Check.due("days(400)", x.days(400), 400);
        Check.due("days(401)", x.days(401), -1);
        Check.due("days(-1)", x.days(-1), -1);
        Check.due("days(MAX)", x.days(Integer.MAX_VALUE), -1);
        Check.due("days(1)", x.days(1), 1);
        Check.due("about(0)", x.about(0), 401);
    }

    private static void lastDay() {
        CheeseCellar x = new CheeseCellar();
        x.milk(1, 10);
        Check.small(x, 0, 0);
        for (int i = 0; i < 249; i++) {
            x.days(400);
        }
        Check.due("about(0)", x.about(0), 99600);
        x.days(399);
        Check.due("days(400) with one left", x.days(400), 1);
        Check.due("about(0)", x.about(0), 100000);
        Check.due("age", x.of(0, 5), 100000);
        Check.due("side", x.of(0, 6), 100000);
        Check.due("days(400) with none left", x.days(400), 0);
        Check.due("days(0)", x.days(0), 0);
        Check.due("days(401)", x.days(401), -1);
        Check.due("side", x.of(0, 6), 100000);
        Check.due("ripeness", x.of(0, 2), 300000);
        Check.due("mould is held", x.of(0, 3), 1000000);
    }

    private static void ripening() {
        for (int kind = 0; kind < 3; kind++) {
            for (int air = 0; air <= 9; air++) {
                for (int damp = 0; damp <= 99; damp += 9) {
                    oneDay(kind, air, damp);
                }
            }
        }
    }

    private static void oneDay(int kind, int air, int damp) {
        CheeseCellar x = new CheeseCellar();
        x.milk(1, 10);
        x.air(7, air);
        x.damp(1, damp);
        Check.small(x, kind, 7);
        x.days(1);
        int[] ripe = {3 + air / 3, 2 + damp / 30, 1 + air / 5};
        String label = "kind " + kind + " air " + air + " damp " + damp;
        Check.due(label + ": ripeness", x.of(0, 2), ripe[kind]);
        Check.due(label + ": mould", x.of(0, 3), damp / 20);
        Check.due(label + ": weight", x.of(0, 4), 100 - air);
        Check.due(label + ": side", x.of(0, 6), 1);
        x.days(3);
        Check.due(label + ": mould of the side", x.of(0, 3), damp / 20 * 4 + 1);
    }

    private static void deeds() {
        CheeseCellar x = new CheeseCellar();
        x.milk(1, 100);
        x.damp(0, 99);
        for (int kind = 0; kind < 3; kind++) {
            Check.small(x, kind, kind);
        }
        Check.give(x, "when 1 do turn;");
        x.days(5);
        for (int kind = 0; kind < 3; kind++) {
            Check.due("mould without side", x.of(kind, 3), 20);
            Check.due("side behind turn", x.of(kind, 6), 1);
        }
        x.damp(0, 0);
        Check.give(x, "when day=5 do wash;when day=6 do brush;when 1 do turn;");
        x.days(1);
        int[] washed = {16, 10, 16};
        for (int kind = 0; kind < 3; kind++) {
            Check.due("washed, kind " + kind, x.of(kind, 3), washed[kind]);
            Check.due("weight behind wash", x.of(kind, 4), 105);
        }
        x.days(1);
        for (int kind = 0; kind < 3; kind++) {
            Check.due("brushed, kind " + kind, x.of(kind, 3), washed[kind] - 6);
            Check.due("weight behind brush", x.of(kind, 4), 103);
        }
        x.days(2);
        Check.due("nothing more", x.of(1, 4), 103);
    }

    private static void linesInOrder() {
        CheeseCellar x = new CheeseCellar();
        x.milk(1, 100);
        Check.small(x, 0, 0);
        // the second line sees what the first did, the third what the second did
        Check.give(x, "when weight=100 do wash;when weight=105 do wash;when weight=110 do brush;when weight=100 do wash;");
        x.days(1);
        Check.due("weight", x.of(0, 4), 108);
        Check.give(x, "when side=1 do turn;when side=0 do wash;when side=1 do brush;");
        x.days(1);
        Check.due("turned and washed", x.of(0, 4), 113);
        Check.due("side", x.of(0, 6), 1);
        // orders come before the day's own changes
        x.air(0, 9);
        Check.give(x, "when ripe=6 do wash;");
        x.days(1);
        Check.due("weight by orders of the old ripeness", x.of(0, 4), 109);
        Check.due("ripeness", x.of(0, 2), 12);
    }

    private static void floors() {
        CheeseCellar x = new CheeseCellar();
        x.milk(1, 100);
        Check.small(x, 1, 0);
        x.air(0, 9);
        x.days(11);
        Check.due("weight", x.of(0, 4), 1);
        Check.give(x, "when 1 do brush;");
        int mould = x.of(0, 3);
        x.days(1);
        Check.due("weight 0 at least", x.of(0, 4), 0);
        Check.due("mould behind a brush", x.of(0, 3), mould - 6 + 11 / 3);
        Check.give(x, "when 1 do turn;when 1 do wash;");
        x.days(9);
        Check.due("mould 0 at least", x.of(0, 3), 0);
        Check.due("5 more, 9 less, 0 at least", x.of(0, 4), 0);
        Check.give(x, "when 1 do wash;when 1 do brush;when 1 do brush;when 1 do brush;when 1 do wash;when 1 do wash;");
        x.days(1);
        Check.due("each is 0 at least by itself", x.of(0, 4), 1);
    }

    private static void ceilings() {
        CheeseCellar x = new CheeseCellar();
        x.milk(1, 1000);
        x.milk(1, 1000);
        x.milk(1, 1000);
        x.air(0, 0);
        x.damp(0, 99);
        x.wheel(1, 0, 0, 1000, 1, 1000, 2, 1000);
        Check.due("weight", x.of(0, 4), 300000);
        Check.give(x, "when 1 do wash;".repeat(8));
        for (int i = 0; i < 44; i++) {
            x.days(400);
        }
        Check.due("weight 1000000 at most", x.of(0, 4), 1000000);
        Check.give(x, "when 1 do wash;when 1 do brush;when 1 do turn;");
        x.days(1);
        Check.due("held at once", x.of(0, 4), 999998);
        Check.due("mould 1000000 at most", x.of(0, 3) <= 1000000, true);
    }
}
