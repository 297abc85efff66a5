/** Promises 17, 18, 19: plan, planned, carry. */
public final class PlanTest {
    public static void main(String[] args) {
        ways();
        firstAmongLike();
        roomOfThoseWhoGo();
        noPlan();
        tooMany();
        plannedStays();
        carrySpoilt();
        carryNotSpoilt();
        carryWithoutStays();
        crowd();
        Check.finish();
    }

    /** Wheels of kind 0 must lie under air 5. */
    private static CheeseCellar cellar(int... goodShelves) {
        CheeseCellar x = new CheeseCellar();
        x.milk(1, 1000);
        x.band(0, 0, 5, 5);
        for (int shelf : goodShelves) {
            x.air(shelf, 5);
        }
        return x;
    }

    private static void ways() {
        for (int home = 0; home < 24; home++) {
            for (int goal = 0; goal < 24; goal++) {
                CheeseCellar x = cellar(goal);
                Check.small(x, 0, home);
                int way = home == goal ? 0 : 20 * Math.abs(home / 6 - goal / 6) + Math.abs(home % 6 - goal % 6);
                Check.due("plan() from " + home + " to " + goal, x.plan(), way);
                Check.due("planned(0)", x.planned(0), home == goal ? -1 : goal);
            }
        }
    }

    private static void firstAmongLike() {
        CheeseCellar x = cellar(1, 3, 9);
        Check.small(x, 0, 2);
        Check.due("plan()", x.plan(), 1);
        Check.due("planned(0)", x.planned(0), 1);
        for (int i = 0; i < 3; i++) {
            Check.small(x, 0, 1);
        }
        Check.small(x, 0, 2);
        Check.due("plan()", x.plan(), 2);
        Check.due("the first wheel has the first shelf", x.planned(0), 1);
        Check.due("planned(4)", x.planned(4), 3);
        Check.due("one that stays", x.planned(1), -1);
        // the least sum goes before the first wheel's shelf
        CheeseCellar y = cellar(0, 4);
        for (int i = 0; i < 3; i++) {
            Check.small(y, 0, 0);
        }
        Check.small(y, 0, 2);
        Check.small(y, 0, 1);
        Check.due("plan()", y.plan(), 3);
        Check.due("planned(3)", y.planned(3), 4);
        Check.due("planned(4)", y.planned(4), 0);
    }

    private static void roomOfThoseWhoGo() {
        // two full shelves change all their wheels with one another
        CheeseCellar x = new CheeseCellar();
        x.milk(1, 1000);
        x.band(0, 0, 1, 1);
        x.band(1, 0, 2, 2);
        for (int shelf = 0; shelf < 24; shelf++) {
            x.air(shelf, 9);
        }
        x.air(0, 2);
        x.air(6, 1);
        for (int i = 0; i < 4; i++) {
            Check.small(x, 0, 0);
            Check.small(x, 1, 6);
        }
        Check.due("plan()", x.plan(), 160);
        Check.due("carry()", x.carry(), 8);
        for (int i = 0; i < 8; i++) {
            Check.due("of(" + i + ", 1)", x.of(i, 1), i % 2 == 0 ? 6 : 0);
            Check.due("of(" + i + ", 7)", x.of(i, 7), 1);
        }
        Check.due("about(5)", x.about(5), 16);
        Check.due("shelf 0 is full", x.move(0, 0), false);
        Check.due("shelf 0 is full", Check.small(x, 0, 0), -1);
    }

    private static void noPlan() {
        CheeseCellar x = cellar(7);
        for (int i = 0; i < 3; i++) {
            Check.small(x, 0, 7);
        }
        Check.small(x, 0, 0);
        Check.small(x, 0, 0);
        Check.due("plan() without room", x.plan(), -2);
        Check.due("planned(3)", x.planned(3), -1);
        Check.due("carry()", x.carry(), -1);
        x.sell(4);
        Check.due("plan() with room", x.plan(), 21);
        Check.due("planned(3)", x.planned(3), 7);
        CheeseCellar y = cellar();
        Check.small(y, 0, 0);
        Check.due("plan() without a shelf", y.plan(), -2);
    }

    private static void tooMany() {
        CheeseCellar x = cellar(20, 21, 22);
        for (int i = 0; i < 10; i++) {
            Check.small(x, 0, i);
        }
        int sum = x.plan();
        Check.due("plan() for ten", sum > 0, true);
        Check.small(x, 0, 10);
        Check.due("plan() for eleven", x.plan(), -3);
        Check.due("planned(0) is the one before", x.planned(0) >= 20, true);
        Check.due("planned(10)", x.planned(10), -1);
        Check.due("carry()", x.carry(), -1);
        x.air(20, 0);
        x.air(21, 0);
        x.air(22, 0);
        Check.due("plan() for eleven that can't be", x.plan(), -3);
        x.sell(0);
        Check.due("plan() for ten that can't be", x.plan(), -2);
    }

    private static void plannedStays() {
        CheeseCellar x = cellar(1);
        Check.small(x, 0, 0);
        x.plan();
        Check.due("planned(0)", x.planned(0), 1);
        Check.due("planned(-1)", x.planned(-1), -1);
        Check.due("planned(40)", x.planned(40), -1);
        x.air(1, 0);
        Check.due("plan()", x.plan(), -2);
        Check.due("planned(0)", x.planned(0), 1);
        x.sell(0);
        Check.due("planned(0) of a sold one", x.planned(0), 1);
        Check.due("plan() with all suited", x.plan(), 0);
        Check.due("planned(0)", x.planned(0), -1);
        Check.due("carry() of an empty plan", x.carry(), 0);
        Check.due("carry() again", x.carry(), -1);
    }

    /** A cellar with a fresh plan for wheel 0; wheel 1 is suited, milk 0 has litres left. */
    private static CheeseCellar planned() {
        CheeseCellar x = cellar(1, 2);
        Check.small(x, 0, 0);
        Check.small(x, 0, 2);
        Check.due("plan()", x.plan(), 1);
        return x;
    }

    private static void spoilt(String call, CheeseCellar x) {
        int stays = x.about(5);
        Check.due("carry() behind " + call, x.carry(), -1);
        Check.due("planned(0) behind " + call, x.planned(0), 1);
        Check.due("stays behind " + call, x.about(5), stays);
    }

    private static void carrySpoilt() {
        CheeseCellar x = planned();
        x.air(23, 0);
        spoilt("air", x);
        x = planned();
        Check.small(x, 0, 2);
        spoilt("wheel", x);
        x = planned();
        x.sell(1);
        spoilt("sell", x);
        x = planned();
        x.days(1);
        spoilt("days(1)", x);
        x = planned();
        x.band(2, 0, 0, 0);
        spoilt("band", x);
        x = planned();
        x.move(1, 1);
        spoilt("move", x);
        Check.due("plan() anew", x.plan(), 1);
        Check.due("carry() anew", x.carry(), 1);
        Check.due("about(5)", x.about(5), 4);
    }

    private static void kept(String call, CheeseCellar x) {
        Check.due("carry() behind " + call, x.carry(), 1);
        Check.due("of(0, 1) behind " + call, x.of(0, 1), 1);
        Check.due("planned(0) behind carry()", x.planned(0), -1);
        Check.due("carry() again", x.carry(), -1);
    }

    private static void carryNotSpoilt() {
        CheeseCellar x = planned();
        x.damp(0, 50);
        x.milk(1, 1);
        x.mark(0, 0, 10);
        x.untell(0);
        x.days(0);
        Check.give(x, "when 1 do turn;");
        kept("damp, milk, mark, untell, days(0), orders", x);
        x = planned();
        x.air(24, 0);
        x.wheel(0, 0, 0, 0, -1, 0, -1, 0);
        x.sell(9);
        x.days(401);
        x.band(0, 0, 2, 1);
        x.move(1, 2);
        kept("calls that did nothing", x);
        x = planned();
        Check.due("plan() again", x.plan(), 1);
        kept("plan()", x);
    }

    private static void carryWithoutStays() {
        CheeseCellar x = cellar(1);
        Check.small(x, 0, 0);
        Check.small(x, 0, 0);
        Check.small(x, 1, 5);
        for (int i = 0; i < 195; i++) {
            x.move(2, i % 2 + 3);
        }
        Check.due("about(5)", x.about(5), 198);
        Check.due("plan()", x.plan(), 2);
        Check.due("carry() with two left", x.carry(), 2);
        Check.due("about(5)", x.about(5), 200);
        CheeseCellar y = cellar(1);
        Check.small(y, 0, 0);
        Check.small(y, 0, 0);
        Check.small(y, 1, 5);
        for (int i = 0; i < 196; i++) {
            y.move(2, i % 2 + 3);
        }
        Check.due("plan()", y.plan(), 2);
        Check.due("carry() with one left", y.carry(), -1);
        Check.due("of(0, 1)", y.of(0, 1), 0);
        Check.due("about(5)", y.about(5), 199);
        Check.due("planned(0)", y.planned(0), 1);
    }

    /** Many wheels of three kinds in a full cellar, so that chains of changes are needed. */
    private static void crowd() {
        CheeseCellar x = new CheeseCellar();
        PlainCellar y = new PlainCellar();
        Dice dice = new Dice(77);
        for (int round = 0; round < 200; round++) {
            x = new CheeseCellar();
            y = new PlainCellar();
            x.milk(1, 1000);
            y.milk(1, 1000);
            for (int shelf = 0; shelf < 24; shelf++) {
                int air = dice.upTo(round % 9 + 1);
                x.air(shelf, air);
                y.air(shelf, air);
            }
            for (int i = 0; i < 8 + dice.upTo(32); i++) {
                int kind = dice.upTo(2);
                int shelf = dice.upTo(round % 23);
                x.wheel(kind, shelf, 0, 1, -1, 0, -1, 0);
                y.wheel(kind, shelf, 0, 1, -1, 0, -1, 0);
            }
            for (int kind = 0; kind < 3; kind++) {
                int least = dice.upTo(5);
                int most = least + dice.upTo(9 - least);
                x.band(kind, 0, least, most);
                y.band(kind, 0, least, most);
            }
            Check.due("plan() of crowd " + round, x.plan(), y.plan());
            for (int wheel = 0; wheel < 40; wheel++) {
                Check.due("planned(" + wheel + ") of crowd " + round, x.planned(wheel), y.planned(wheel));
            }
            Check.due("carry() of crowd " + round, x.carry(), y.carry());
        }
    }
}
