/** Promises 9 and 10: orders and fault. */
public final class OrdersTest {
    public static void main(String[] args) {
        goodTexts();
        noTokens();
        cantStand();
        strangeNames();
        limits();
        depth();
        ordersStay();
        worth();
        names();
        Check.finish();
    }

    private static void goodTexts() {
        Check.good("", 0);
        Check.good(" \n \n", 0);
        Check.good("when 1 do turn;", 1);
        Check.good("when1 do wash;when(1)do brush;", 2);
        Check.good("\nwhen\n1\ndo\nturn\n;\n", 1);
        Check.good("when 000001 do turn;when 999999 do turn;", 2);
        Check.good("when kind or age and not ripe<mould+weight-air or damp>side do turn;", 1);
        Check.good("when shelf=day do turn;", 1);
        Check.good("when not not 1=1 do turn;", 1);
        Check.good("when (1<2)<3 do turn;", 1);
        Check.good("when 1<(not 2) do turn;", 1);
        Check.good("when (1 or 2)+(3 and 4) do turn;", 1);
        Check.good("when 1+2-3+4<5-6+7 do turn;", 1);
    }

    private static void noTokens() {
        Check.bad("$", 1, 0);
        Check.bad("when $", 1, 5);
        Check.bad("When 1 do turn;", 1, 0);
        Check.bad("when\t1 do turn;", 1, 4);
        Check.bad("when 1 do turn;\r", 1, 15);
        Check.bad("when 1234567 do turn;", 1, 5);
        Check.bad("when 0000001 do turn;", 1, 5);
        Check.bad("when 12a do turn;", 1, 5);
        Check.bad("when 1do turn;", 1, 5);
        Check.bad("when 1 do turn;whenabcde", 1, 15);
        Check.bad("when abcdefghi do turn;", 1, 5);
        Check.bad("when 1*2 do turn;", 1, 6);
        Check.bad("when 1 do turn;1x", 1, 15);
        Check.bad("when 1{2 do turn;", 1, 6);
        Check.bad("when `", 1, 5);
        Check.bad("when 1:", 1, 6);
        Check.bad("when 1/", 1, 6);
        Check.bad("when 1\0do turn;", 1, 6);
        // at one place the least fault counts, at two the first place
        Check.bad("do $", 2, 0);
        Check.bad("when ; abcdefghi", 2, 5);
        Check.bad("when abc $", 3, 5);
    }

    private static void cantStand() {
        Check.bad("1", 2, 0);
        Check.bad("age", 2, 0);
        Check.bad("xyz", 2, 0);
        Check.bad(";", 2, 0);
        Check.bad("when", 2, 4);
        Check.bad("when  \n", 2, 7);
        Check.bad("when do turn;", 2, 5);
        Check.bad("when when", 2, 5);
        Check.bad("when turn", 2, 5);
        Check.bad("when or", 2, 5);
        Check.bad("when 1", 2, 6);
        Check.bad("when 1 2", 2, 7);
        Check.bad("when 1 age", 2, 7);
        Check.bad("when 1 xyz", 2, 7);
        Check.bad("when age3", 2, 8);
        Check.bad("when 1 do", 2, 9);
        Check.bad("when 1 do do", 2, 10);
        Check.bad("when 1 do xyz;", 2, 10);
        Check.bad("when 1 do age;", 2, 10);
        Check.bad("when 1 do turn", 2, 14);
        Check.bad("when 1 do turn turn", 2, 15);
        Check.bad("when 1 do turn;;", 2, 15);
        Check.bad("when 1 do turn; 1", 2, 16);
        Check.bad("when 1<2<3 do turn;", 2, 8);
        Check.bad("when 1=2>3 do turn;", 2, 8);
        Check.bad("when 1<not 2 do turn;", 2, 7);
        Check.bad("when 1+not 2 do turn;", 2, 7);
        Check.bad("when -1 do turn;", 2, 5);
        Check.bad("when +1 do turn;", 2, 5);
        Check.bad("when 1+-1 do turn;", 2, 7);
        Check.bad("when () do turn;", 2, 6);
        Check.bad("when (1 do turn;", 2, 8);
        Check.bad("when (1;", 2, 7);
        Check.bad("when 1) do turn;", 2, 6);
        Check.bad("when not do turn;", 2, 9);
        Check.bad("when 1 not 2 do turn;", 2, 7);
        Check.bad("when 1 and or 2 do turn;", 2, 11);
        Check.bad("when 1 or", 2, 9);
        Check.bad("when 1 or ", 2, 10);
        Check.bad("when <1", 2, 5);
        Check.bad("when (1)(2)", 2, 8);
        Check.bad("when 1(2)", 2, 6);
    }

    private static void strangeNames() {
        Check.bad("when x do turn;", 3, 5);
        Check.bad("when ages do turn;", 3, 5);
        Check.bad("when ag do turn;", 3, 5);
        Check.bad("when 1+whe do turn;", 3, 7);
        Check.bad("when not turns", 3, 9);
        Check.bad("when 1 or (2<abcdefgh)", 3, 13);
        Check.bad("when soft=kind", 3, 5);
        Check.bad("when azza", 3, 5);
    }

    private static void limits() {
        String line = "when 1 do turn;";
        Check.good(line.repeat(8), 8);
        Check.bad(line.repeat(9), 2, 120);
        Check.bad(line.repeat(8) + " \n" + line, 2, 122);
        Check.bad(line.repeat(8) + "when", 2, 120);
        Check.bad(line.repeat(8) + "$", 1, 120);
        Check.bad(line.repeat(8) + "7", 2, 120);
        Check.good("when " + "1+".repeat(79) + "age do turn;", 1);
        Check.bad("when " + "1+".repeat(80) + "age do turn;", 2, 165);
        Check.bad("when " + "1+".repeat(80) + "1 do turn;", 2, 165);
        Check.bad("when " + "1+".repeat(80) + "xyz do turn;", 2, 165);
        Check.bad("when " + "1+".repeat(79) + "xyz do turn;", 3, 163);
        Check.bad("when " + "1+".repeat(80) + "1234567", 1, 165);
        Check.bad("when " + "1+".repeat(80) + "(day) do turn;", 2, 166);
        // the operands of all lines count together
        String forty = "when " + "1+".repeat(39) + "1 do turn;";
        Check.good(forty + forty, 2);
        Check.bad(forty + forty + line, 2, 2 * forty.length() + 5);
        Check.good(" ".repeat(485) + line, 1);
        Check.good(line + " ".repeat(485), 1);
        // as many tokens as a tape can hold, and its last bytes within a token
        Check.bad(";".repeat(500), 2, 0);
        Check.bad(" ".repeat(491) + "when 1234", 2, 500);
        Check.bad(" ".repeat(491) + "when abcd", 3, 496);
        Check.bad(" ".repeat(495) + "when ", 2, 500);
        Check.bad(" ".repeat(499) + "x", 2, 499);
    }

    private static void depth() {
        Check.good("when " + "(".repeat(7) + "1" + ")".repeat(7) + " do turn;", 1);
        Check.bad("when " + "(".repeat(8) + "1" + ")".repeat(8) + " do turn;", 2, 13);
        Check.bad("when " + "(".repeat(8) + "  1", 2, 15);
        Check.bad("when " + "(".repeat(9), 2, 13);
        Check.bad("when " + "(".repeat(8), 2, 13);
        Check.bad("when " + "(".repeat(8) + "xyz", 2, 13);
        Check.bad("when " + "(".repeat(8) + "$", 1, 13);
        Check.good("when " + "not ".repeat(7) + "1 do turn;", 1);
        Check.bad("when " + "not ".repeat(8) + "1 do turn;", 2, 37);
        Check.bad("when " + "not ".repeat(9) + "1 do turn;", 2, 37);
        Check.good("when not(not(not(not 1))) do turn;", 1);
        Check.bad("when not(not(not(not(1)))) do turn;", 2, 21);
        // what is beside, not within, does not count
        Check.good("when " + "not(1) and ((1))+((1)) or ".repeat(5) + "not not 1 do turn;", 1);
        Check.good("when not not (((((1)))))+(((((2)))))=(((((3))))) and not not (((((1))))) do turn;", 1);
        Check.bad("when not not 1+((((((2)))))) do turn;", 2, 21);
    }

    private static void ordersStay() {
        CheeseCellar x = new CheeseCellar();
        Check.due("fault(0)", x.fault(0), 0);
        Check.due("fault(1)", x.fault(1), -1);
        Check.due("orders", Check.give(x, "when 1 do turn;when 1 do wash;"), 2);
        x.milk(1, 10);
        Check.small(x, 0, 0);
        Check.due("faulty orders", Check.give(x, "when 0 do turn;when 1 do brush;when"), -1);
        Check.due("about(3)", x.about(3), 2);
        Check.due("about(6)", x.about(6), 0);
        x.days(1);
        Check.due("washed, not brushed", x.of(0, 4), 105);
        Check.due("fault(0)", x.fault(0), 2);
        Check.due("fault(1)", x.fault(1), 35);
        Check.due("fault(2)", x.fault(2), -1);
        Check.due("fault(-1)", x.fault(-1), -1);
        Check.due("no orders", x.orders(), 0);
        Check.due("fault(0)", x.fault(0), 0);
        Check.due("fault(1)", x.fault(1), -1);
        x.days(1);
        Check.due("nothing done", x.of(0, 4), 105);
    }

    /** Orders wash (5 more of weight) exactly if the e is not 0. */
    private static void holds(String e, boolean want) {
        CheeseCellar x = new CheeseCellar();
        x.milk(1, 10);
        x.damp(2, 47);
        x.days(5);
        Check.small(x, 2, 13);
        x.days(4);
        x.air(13, 7);
        Check.due("orders with " + e, Check.give(x, "when " + e + " do wash;"), 1);
        x.days(1);
        Check.due("does " + e + " hold", x.of(0, 4) == 98, want);
    }

    private static void worth() {
        holds("0", false);
        holds("7", true);
        holds("0-1", true);
        holds("5-2-3", false);
        holds("5-(2-3)=6", true);
        holds("1-1+1", true);
        holds("2<3", true);
        holds("3<3", false);
        holds("3>2", true);
        holds("3>3", false);
        holds("3=3", true);
        holds("1-2<0", true);
        holds("not 0", true);
        holds("not 5", false);
        holds("not (0-5)", false);
        holds("not not 5=1", false);
        holds("(not not 5)=1", true);
        holds("not 1<0", true);
        holds("not 0 and 0", false);
        holds("not (0 and 0)", true);
        holds("1 or 0 and 0", true);
        holds("(1 or 0) and 0", false);
        holds("0 or 0", false);
        holds("2 and 1", true);
        holds("(2 and 4)=1", true);
        holds("(2 or 4)=1", true);
        holds("(4)=4", true);
        holds("(0 or 5)+(3<4)+1=3", true);
        holds("999999+999999-999998=500000+500000", true);
    }

    private static void names() {
        holds("kind=2", true);
        holds("age=4", true);
        holds("ripe=4", true);
        holds("mould=9", true);
        holds("weight=100", true);
        holds("air=7", true);
        holds("damp=47", true);
        holds("side=4", true);
        holds("shelf=13", true);
        holds("day=9", true);
        holds("day=10", false);
    }
}
