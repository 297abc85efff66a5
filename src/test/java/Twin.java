/**
 * Two cellars with one past. A call that is refused is made on one of them alone: both must look the same
 * behind it, and go on alike, so that what can't be seen (the tape's bytes, the orders, the plan) is tried too.
 */
final class Twin {
    interface Past {
        void go(CheeseCellar x);
    }

    interface Call {
        long on(CheeseCellar x);
    }

    interface Question {
        boolean on(CheeseCellar x);
    }

    private final Past past;

    Twin(Past past) {
        this.past = past;
    }

    /** A past in which everything is there: orders, a tape, a sold wheel, marks, a plan that can be carried. */
    static Twin busy() {
        return new Twin(Twin::goBusy);
    }

    static CheeseCellar busyCellar() {
        CheeseCellar x = new CheeseCellar();
        goBusy(x);
        return x;
    }

    private static void goBusy(CheeseCellar x) {
        x.milk(7, 20);
        x.milk(8, 3);
        x.milk(9, 10);
        x.air(1, 5);
        x.air(23, 5);
        x.damp(0, 45);
        Check.small(x, 0, 0);
        x.wheel(1, 2, 1, 2, 0, 1, -1, 0);
        x.wheel(2, 2, 2, 1, -1, 0, -1, 0);
        Check.small(x, 0, 1);
        Check.give(x, "when age>2 and kind=0 do wash;when side=2 do turn;");
        x.days(3);
        x.mark(0, 0, 12);
        x.mark(1, 0, 5);
        x.mark(0, 3, 20);
        x.untell(1);
        x.sell(2);
        x.days(1);
        x.band(0, 2, 4, 6);
        Check.put(x, "when weight>5 do brush;");
        Check.due("a plan in a busy cellar", x.plan(), 1);
    }

    void refuses(String name, Call call, long want) {
        CheeseCellar x = new CheeseCellar();
        CheeseCellar y = new CheeseCellar();
        past.go(x);
        past.go(y);
        Check.due(name, call.on(x), want);
        same("what is seen behind " + name, x, y);
        follow(name, x, y);
    }

    void refuses(String name, Question question) {
        refuses(name, x -> question.on(x) ? 1 : 0, 0);
    }

    private static void follow(String name, CheeseCellar x, CheeseCellar y) {
        Check.due("carry() behind " + name, x.carry(), y.carry());
        same("what was carried behind " + name, x, y);
        Check.due("days(1) behind " + name, x.days(1), y.days(1));
        same("a day behind " + name, x, y);
        Check.due("orders() behind " + name, x.orders(), y.orders());
        Check.due("days(2) behind " + name, x.days(2), y.days(2));
        Check.due("milk(1, 9) behind " + name, x.milk(1, 9), y.milk(1, 9));
        Check.due("wheel(..) behind " + name, Check.small(x, 0, 0), Check.small(y, 0, 0));
        Check.due("mark(4, 0, 1) behind " + name, x.mark(4, 0, 1), y.mark(4, 0, 1));
        Check.due("band(1, 0, 0, 0) behind " + name, x.band(1, 0, 0, 0), y.band(1, 0, 0, 0));
        Check.due("plan() behind " + name, x.plan(), y.plan());
        same("the end of the run behind " + name, x, y);
    }

    private static void same(String name, CheeseCellar x, CheeseCellar y) {
        String got = look(x);
        String want = look(y);
        Check.due(name + ": " + got + " for " + want, got.equals(want), true);
    }

    /** All that questions tell of a cellar. */
    static String look(CheeseCellar x) {
        StringBuilder seen = new StringBuilder();
        for (int what = 0; what <= 6; what++) {
            seen.append(x.about(what)).append(' ');
        }
        seen.append("fault ").append(x.fault(0)).append(' ').append(x.fault(1));
        for (int milk = 0; milk < x.about(1); milk++) {
            seen.append("\nmilk ").append(x.from(milk, 0)).append(' ').append(x.from(milk, 1)).append(' ');
            seen.append(x.from(milk, 2)).append(' ').append(x.reached(milk));
        }
        for (int wheel = 0; wheel < x.about(2); wheel++) {
            lookAtWheel(x, wheel, seen);
        }
        return seen.toString();
    }

    private static void lookAtWheel(CheeseCellar x, int wheel, StringBuilder seen) {
        seen.append("\nwheel ");
        for (int what = 0; what <= 7; what++) {
            seen.append(x.of(wheel, what)).append(' ');
        }
        seen.append("plan ").append(x.planned(wheel)).append(" suits ");
        for (int shelf = 0; shelf <= 23; shelf++) {
            seen.append(x.suits(wheel, shelf));
        }
        seen.append(" grades ");
        for (int day = Math.max(0, x.about(0) - 6); day <= x.about(0) + 1; day++) {
            seen.append(x.grade(wheel, day)).append(' ');
        }
        seen.append("beside ");
        for (int other = 0; other < x.about(2); other++) {
            seen.append(x.beside(wheel, other));
        }
    }
}
