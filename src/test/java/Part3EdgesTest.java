/** Part 3 of the document, and promise 11: one test for each sentence that names an edge. */
public final class Part3EdgesTest {
    private static final int TOP = 1000000;

    public static void main(String[] args) {
        noDaysAndMost();
        otherNumbers();
        lastDay();
        nothingBehindTheLastDay();
        whoLies();
        emptyDay();
        linesInOrder();
        asThingsAreThen();
        ordersFirst();
        notZero();
        turn();
        washMould();
        washWeight();
        brushMould();
        brushWeight();
        ripeness();
        mouldByDamp();
        mouldBySide();
        weightByAir();
        sideOneMore();
        ripenessAtMost();
        mouldAtMost();
        mouldHeldIsReal();
        weightAtMost();
        weightHeldIsReal();
        dayOneMore();
        Check.finish();
    }

    private static CheeseCellar withWheel(int kind) {
        CheeseCellar x = new CheeseCellar();
        x.milk(1, 1000);
        Check.small(x, kind, 0);
        return x;
    }

    private static void noDaysAndMost() {
        Check.says("So many DAYS (0 .. 400) ..: how many");
        CheeseCellar x = withWheel(0);
        int day = 0;
        for (int n : new int[] {0, 1, 2, 399, 400, 0}) {
            Check.due("days(" + n + ")", x.days(n), n);
            day += n;
            Check.due("the day", x.about(0), day);
            Check.due("ripeness", x.of(0, 2), 3 * day);
            Check.due("side", x.of(0, 6), day);
        }
    }

    private static void otherNumbers() {
        Check.says("NONE for another number.");
        for (int n : Check.outside(400)) {
            Twin.busy().refuses("days(" + n + ")", x -> x.days(n), -1);
        }
    }

    private static CheeseCellar onDay(int kind, int day) {
        CheeseCellar x = withWheel(kind);
        for (int left = day; left > 0; left -= 400) {
            x.days(Math.min(left, 400));
        }
        Check.due("the day", x.about(0), day);
        return x;
    }

    private static void lastDay() {
        Check.says("until THE DAY would be above 100000: how many");
        int[][] runs = {{99999, 0, 0}, {99999, 1, 1}, {99999, 2, 1}, {99999, 400, 1}, {99600, 400, 400},
            {99601, 400, 399}, {99599, 400, 400}, {100000, 0, 0}, {100000, 1, 0}, {100000, 400, 0}};
        for (int[] run : runs) {
            CheeseCellar x = onDay(0, run[0]);
            Check.due("days(" + run[1] + ") on day " + run[0], x.days(run[1]), run[2]);
            Check.due("the day", x.about(0), run[0] + run[2]);
            Check.due("age", x.of(0, 5), run[0] + run[2]);
            Check.due("side", x.of(0, 6), run[0] + run[2]);
            Check.due("ripeness", x.of(0, 2), 3 * (run[0] + run[2]));
        }
    }

    private static void nothingBehindTheLastDay() {
        Check.says("until THE DAY would be above 100000");
        CheeseCellar x = onDay(0, 100000);
        Check.due("days(401)", x.days(401), -1);
        Check.due("days(-1)", x.days(-1), -1);
        Check.due("a wheel of the last day", Check.small(x, 0, 1), 1);
        Check.due("its age", x.of(1, 5), 0);
        x.band(0, 0, 4, 4);
        x.air(7, 4);
        Check.due("plan()", x.plan(), 41);
        Check.due("days(400)", x.days(400), 0);
        Check.due("no day went on, so the plan is good", x.carry(), 2);
        Check.due("days(400)", x.days(400), 0);
        Check.due("the last day has no end: nobody lay beside", x.beside(0, 1), 0);
        Check.due("weight", x.of(1, 4), 100);
        Check.due("mark", x.mark(0, 1, 5), 0);
        Check.due("grade on the last day", x.grade(1, 100000), 5);
        Check.due("grade on the day before", x.grade(1, 99999), -1);
    }

    private static void whoLies() {
        Check.says("A DAY: WHEEL by WHEEL that lies on a SHELF");
        CheeseCellar x = new CheeseCellar();
        x.milk(1, 1000);
        for (int i = 0; i < 40; i++) {
            Check.small(x, 0, i % 24);
        }
        x.sell(0);
        x.sell(17);
        x.sell(39);
        Check.give(x, "when 1 do wash;");
        x.days(1);
        for (int i = 0; i < 40; i++) {
            boolean sold = i == 0 || i == 17 || i == 39;
            Check.due("ripeness of " + i, x.of(i, 2), sold ? 0 : 3);
            Check.due("weight of " + i, x.of(i, 4), sold ? 100 : 105);
            Check.due("side of " + i, x.of(i, 6), sold ? 0 : 1);
        }
    }

    private static void emptyDay() {
        Check.says("Then THE DAY is one more.");
        CheeseCellar x = new CheeseCellar();
        Check.give(x, "when 1 do turn;");
        Check.due("days(400) without wheels", x.days(400), 400);
        Check.due("the day", x.about(0), 400);
        x.milk(1, 1);
        Check.small(x, 0, 0);
        x.sell(0);
        Check.due("days(1) with all sold", x.days(1), 1);
        Check.due("the day", x.about(0), 401);
    }

    private static void linesInOrder() {
        Check.says("first all lines of ORDERS whose e is not 0, in order");
        CheeseCellar x = withWheel(0);
        // each line waits for what the line before did: all eight are done, in order
        StringBuilder text = new StringBuilder();
        for (int i = 0; i < 8; i++) {
            text.append("when weight=").append(100 + 5 * i).append(" do wash;");
        }
        Check.due("orders()", Check.give(x, text.toString()), 8);
        x.days(1);
        Check.due("weight", x.of(0, 4), 140);
        // in the other order the first line alone holds
        CheeseCellar y = withWheel(0);
        StringBuilder back = new StringBuilder();
        for (int i = 7; i >= 0; i--) {
            back.append("when weight=").append(100 + 5 * i).append(" do wash;");
        }
        Check.give(y, back.toString());
        y.days(1);
        Check.due("weight", y.of(0, 4), 105);
    }

    private static void asThingsAreThen() {
        Check.says("each e as things are then");
        CheeseCellar x = withWheel(0);
        x.days(4);
        Check.give(x, "when side=4 do turn;when side=0 do wash;when mould=0 do brush;when weight=103 do wash;");
        x.days(1);
        Check.due("weight", x.of(0, 4), 108);
        Check.due("side", x.of(0, 6), 1);
        // one wheel after the other: what was done with the first is nothing to the second
        CheeseCellar y = withWheel(0);
        Check.small(y, 0, 0);
        Check.give(y, "when weight=100 do wash;");
        y.days(1);
        Check.due("weight of the first", y.of(0, 4), 105);
        Check.due("weight of the second", y.of(1, 4), 105);
    }

    private static void ordersFirst() {
        Check.says("Then: RIPENESS more");
        CheeseCellar x = withWheel(0);
        x.air(0, 3);
        x.damp(0, 20);
        Check.give(x, "when ripe=0 and mould=0 and weight=100 and side=0 and day=0 and age=0 do wash;");
        x.days(1);
        Check.due("weight", x.of(0, 4), 102);
        Check.due("mould", x.of(0, 3), 1);
        x.days(1);
        Check.due("weight", x.of(0, 4), 99);
    }

    private static void notZero() {
        Check.says("whose e is not 0");
        String[] es = {"0", "1", "2", "0-1", "0-999999", "1-1", "ripe", "kind"};
        boolean[] want = {false, true, true, true, true, false, false, false};
        for (int i = 0; i < es.length; i++) {
            CheeseCellar x = withWheel(0);
            Check.give(x, "when " + es[i] + " do wash;");
            x.days(1);
            Check.due("weight, when " + es[i], x.of(0, 4), want[i] ? 105 : 100);
        }
    }

    private static void turn() {
        Check.says("turn: its side is 0");
        for (int side = 0; side <= 7; side++) {
            CheeseCellar x = withWheel(0);
            x.days(side);
            Check.due("side", x.of(0, 6), side);
            int mould = x.of(0, 3);
            Check.give(x, "when 1 do turn;");
            x.days(1);
            Check.due("side behind a turn", x.of(0, 6), 1);
            Check.due("no mould of the side", x.of(0, 3), mould);
            Check.due("weight", x.of(0, 4), 100);
        }
    }

    /** A wheel of this kind with this mould, turned every day, in damp 0. */
    private static CheeseCellar withMould(int kind, int mould) {
        CheeseCellar x = withWheel(kind);
        Check.give(x, "when 1 do turn;");
        x.damp(0, 20);
        x.days(mould);
        x.damp(0, 0);
        Check.due("mould", x.of(0, 3), mould);
        return x;
    }

    private static void washMould() {
        Check.says("wash: MOULD 10 less if it is WASHED, else 4 (0 at least)");
        for (int kind = 0; kind <= 2; kind++) {
            for (int mould = 0; mould <= 12; mould++) {
                CheeseCellar x = withMould(kind, mould);
                Check.give(x, "when 1 do turn;when 1 do wash;");
                x.days(1);
                int want = Math.max(0, mould - (kind == 1 ? 10 : 4));
                Check.due("kind " + kind + " with " + mould + " washed", x.of(0, 3), want);
            }
        }
        // held at 0 by each wash, before the day's own mould comes
        CheeseCellar x = withMould(1, 3);
        x.damp(0, 40);
        Check.give(x, "when 1 do turn;when 1 do wash;when 1 do wash;");
        x.days(1);
        Check.due("mould of the day", x.of(0, 3), 2);
    }

    private static void washWeight() {
        Check.says("WEIGHT 5 more");
        for (int kind = 0; kind <= 2; kind++) {
            CheeseCellar x = withWeight(kind, 0);
            Check.give(x, "when 1 do wash;");
            x.days(1);
            Check.due("weight of kind " + kind, x.of(0, 4), 5);
        }
    }

    private static void brushMould() {
        Check.says("brush: MOULD 6 less (0 at least)");
        for (int kind = 0; kind <= 2; kind++) {
            for (int mould = 0; mould <= 8; mould++) {
                CheeseCellar x = withMould(kind, mould);
                Check.give(x, "when 1 do turn;when 1 do brush;");
                x.days(1);
                Check.due("kind " + kind + " with " + mould + " brushed", x.of(0, 3), Math.max(0, mould - 6));
            }
        }
    }

    /** A wheel of this kind with this weight (0 .. 10), under air 0. */
    private static CheeseCellar withWeight(int kind, int weight) {
        CheeseCellar x = withWheel(kind);
        x.air(0, 9);
        x.days(10);
        int more = 10 - weight;
        if (more > 9) {
            x.days(1);
            more -= 9;
        }
        x.air(0, more);
        x.days(1);
        x.air(0, 0);
        Check.due("weight", x.of(0, 4), weight);
        return x;
    }

    private static void brushWeight() {
        Check.says("WEIGHT 2 less (0 at least)");
        for (int weight = 0; weight <= 5; weight++) {
            CheeseCellar x = withWeight(0, weight);
            Check.give(x, "when 1 do brush;");
            x.days(1);
            Check.due("weight " + weight + " brushed", x.of(0, 4), Math.max(0, weight - 2));
        }
        // held at 0 before the next line
        CheeseCellar x = withWeight(0, 1);
        Check.give(x, "when 1 do brush;when 1 do brush;when 1 do wash;");
        x.days(1);
        Check.due("weight", x.of(0, 4), 5);
    }

    private static void ripeness() {
        Check.says("RIPENESS more: SOFT 3 + AIR / 3, WASHED 2 + DAMP / 30, HARD 1 + AIR / 5 (all cut)");
        int[] soft = {3, 3, 3, 4, 4, 4, 5, 5, 5, 6};
        int[] hard = {1, 1, 1, 1, 1, 2, 2, 2, 2, 2};
        for (int air = 0; air <= 9; air++) {
            for (int damp : new int[] {0, 29, 30, 59, 60, 89, 90, 99}) {
                int[] want = {soft[air], damp < 30 ? 2 : damp < 60 ? 3 : damp < 90 ? 4 : 5, hard[air]};
                for (int kind = 0; kind <= 2; kind++) {
                    CheeseCellar x = withWheel(kind);
                    x.air(0, air);
                    x.damp(0, damp);
                    x.days(1);
                    Check.due("kind " + kind + ", air " + air + ", damp " + damp, x.of(0, 2), want[kind]);
                }
            }
        }
    }

    private static void mouldByDamp() {
        Check.says("MOULD more: DAMP / 20 (cut)");
        for (int damp = 0; damp <= 99; damp++) {
            CheeseCellar x = withWheel(damp % 3);
            x.damp(0, damp);
            x.days(1);
            int want = damp < 20 ? 0 : damp < 40 ? 1 : damp < 60 ? 2 : damp < 80 ? 3 : 4;
            Check.due("damp " + damp, x.of(0, 3), want);
        }
    }

    private static void mouldBySide() {
        Check.says("and 1 more for each 3 of its side (cut)");
        // on the day with side 0, 1, 2 nothing, with 3, 4, 5 one ..
        int[] mould = {0, 0, 0, 1, 2, 3, 5, 7, 9, 12, 15, 18, 22};
        for (int kind = 0; kind <= 2; kind++) {
            CheeseCellar x = withWheel(kind);
            for (int day = 0; day < mould.length; day++) {
                x.days(1);
                Check.due("mould behind day " + day, x.of(0, 3), mould[day]);
            }
        }
        // damp and side are cut each by itself
        CheeseCellar x = withWheel(0);
        x.days(2);
        x.damp(0, 39);
        x.days(1);
        Check.due("39 / 20 and 2 / 3", x.of(0, 3), 1);
    }

    private static void weightByAir() {
        Check.says("WEIGHT less by AIR (0 at least)");
        for (int weight = 0; weight <= 10; weight++) {
            for (int air = 0; air <= 9; air++) {
                CheeseCellar x = withWeight(2, weight);
                x.air(0, air);
                x.days(1);
                Check.due("weight " + weight + " under air " + air, x.of(0, 4), Math.max(0, weight - air));
            }
        }
    }

    private static void sideOneMore() {
        Check.says("its side is one more");
        CheeseCellar x = withWheel(0);
        Check.due("side", x.of(0, 6), 0);
        x.days(1);
        Check.due("side", x.of(0, 6), 1);
        x.move(0, 5);
        x.days(400);
        Check.due("side, moved meanwhile", x.of(0, 6), 401);
        Check.give(x, "when side=401 do turn;");
        x.days(1);
        Check.due("side, turned", x.of(0, 6), 1);
        x.days(400);
        Check.due("side", x.of(0, 6), 401);
    }

    private static void ripenessAtMost() {
        Check.says("(RIPENESS, MOULD, WEIGHT: 1000000 at most.)");
        // ripeness can't get there in 100000 days: this is the most
        CheeseCellar x = withWheel(0);
        x.air(0, 9);
        for (int i = 0; i < 250; i++) {
            x.days(400);
        }
        Check.due("the greatest ripeness", x.of(0, 2), 600000);
    }

    /** A wheel of kind 0 with this mould near the top, turned every day, in damp 0. */
    private static CheeseCellar nearTopOfMould(int mould) {
        CheeseCellar x = withWheel(0);
        for (int i = 0; i < 2420; i += 400) {
            x.days(Math.min(400, 2420 - i));
        }
        // by its side alone, mould stands 4 * 6000 or so below the top: the last way goes in steps of 1 to 4
        Check.give(x, "when 1 do turn;");
        int left = mould - x.of(0, 3);
        x.damp(0, 80);
        for (; left >= 4; left -= 4 * Math.min(400, left / 4)) {
            x.days(Math.min(400, left / 4));
        }
        x.damp(0, 20);
        x.days(left);
        x.damp(0, 0);
        Check.due("mould near the top", x.of(0, 3), mould);
        return x;
    }

    private static void mouldAtMost() {
        Check.says("(.. MOULD ..: 1000000 at most.)");
        for (int below = 0; below <= 6; below++) {
            for (int more = 1; more <= 4; more++) {
                CheeseCellar x = nearTopOfMould(TOP - below);
                x.damp(0, 20 * more);
                x.days(1);
                Check.due(below + " below the top and " + more, x.of(0, 3), Math.min(TOP, TOP - below + more));
            }
        }
    }

    private static void mouldHeldIsReal() {
        Check.says("(.. MOULD ..: 1000000 at most.)");
        CheeseCellar x = nearTopOfMould(TOP - 1);
        x.damp(0, 99);
        x.days(400);
        Check.due("held", x.of(0, 3), TOP);
        x.damp(0, 0);
        Check.give(x, "when mould=999999+1 do brush;when 1 do turn;");
        x.days(1);
        Check.due("less than the top, not than what went over it", x.of(0, 3), TOP - 6);
        x.orders();
        x.days(400);
        Check.due("held, without turns", x.of(0, 3), TOP);
        x.days(400);
        Check.due("still held", x.of(0, 3), TOP);
    }

    /** A wheel with this weight near the top: eight washes a day for 17499 days, then single ones. */
    private static CheeseCellar nearTopOfWeight(int weight) {
        CheeseCellar x = new CheeseCellar();
        for (int i = 0; i < 3; i++) {
            x.milk(1, 1000);
        }
        x.wheel(1, 0, 0, 1000, 1, 1000, 2, 1000);
        Check.give(x, "when 1 do wash;".repeat(8));
        for (int left = 17499; left > 0; left -= 400) {
            x.days(Math.min(left, 400));
        }
        Check.due("weight", x.of(0, 4), TOP - 40);
        int left = weight - (TOP - 40);
        Check.give(x, "when 1 do brush;");
        for (; left % 5 != 0; left += 2) {
            x.days(1);
        }
        Check.give(x, "when 1 do wash;");
        x.days(left / 5);
        Check.due("weight near the top", x.of(0, 4), weight);
        return x;
    }

    private static void weightAtMost() {
        Check.says("(.. WEIGHT: 1000000 at most.)");
        for (int below = 0; below <= 7; below++) {
            CheeseCellar x = nearTopOfWeight(TOP - below);
            x.days(1);
            Check.due(below + " below the top and a wash", x.of(0, 4), Math.min(TOP, TOP - below + 5));
        }
    }

    private static void weightHeldIsReal() {
        Check.says("(.. WEIGHT: 1000000 at most.)");
        CheeseCellar x = nearTopOfWeight(TOP - 2);
        x.days(400);
        Check.due("held", x.of(0, 4), TOP);
        Check.give(x, "when weight=999999+1 do brush;");
        x.days(1);
        Check.due("less than the top", x.of(0, 4), TOP - 2);
        Check.give(x, "");
        x.air(0, 9);
        x.days(1);
        Check.due("less by air", x.of(0, 4), TOP - 11);
        // a wash is held at once, so what follows on the same day is less than the top
        Check.give(x, "when 1 do wash;".repeat(3) + "when weight=999999+1 do brush;");
        x.days(1);
        Check.due("wash, brush and air", x.of(0, 4), TOP - 11);
    }

    private static void dayOneMore() {
        Check.says("Then THE DAY is one more.");
        CheeseCellar x = withWheel(0);
        Check.small(x, 0, 0);
        // the day is the same for all wheels of it
        Check.give(x, "when day=3 do wash;");
        x.days(3);
        Check.due("weight before", x.of(1, 4), 100);
        x.days(1);
        Check.due("weight of the first", x.of(0, 4), 105);
        Check.due("weight of the last", x.of(1, 4), 105);
        Check.due("the day", x.about(0), 4);
        x.days(5);
        Check.due("weight behind", x.of(1, 4), 105);
    }
}
