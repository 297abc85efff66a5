/** Long runs of calls on the class and on PlainCellar: every answer must be the same, and no call may throw. */
public final class ModelTest {
    private static final String[] PIECES = {"when", "do", "turn", "wash", "brush", "or", "and", "not", "kind", "age",
        "ripe", "mould", "weight", "air", "damp", "side", "shelf", "day", ";", "<", ">", "=", "+", "-", "(", ")", "0",
        "7", "999999", "1234567", "x", "abcdefgh", "abcdefghi", "1a", "$", " ", "\n", "\t"};

    private final CheeseCellar x = new CheeseCellar();
    private final PlainCellar y = new PlainCellar();
    private final Dice dice;
    private final int run;
    private int wildness;

    private ModelTest(int run) {
        this.run = run;
        dice = new Dice(run);
    }

    public static void main(String[] args) {
        for (int run = 0; run < 400; run++) {
            new ModelTest(run).go();
        }
        for (int run = 0; run < 3000; run++) {
            new ModelTest(run).texts();
        }
        for (int run = 0; run < 200; run++) {
            wild(run);
        }
        Check.finish();
    }

    private void due(String call, long got, long want) {
        if (got != want) {
            Check.due("run " + run + ": " + call, got, want);
        } else {
            Check.due("", 0, 0);
        }
    }

    /** Mostly 0 .. most, sometimes beyond. */
    private int some(int most) {
        if (dice.oneIn(wildness)) {
            return dice.oneIn(2) ? dice.anyInt() : dice.oneIn(2) ? -1 : most + 1;
        }
        return dice.upTo(most);
    }

    private void go() {
        wildness = 20 + 40 * (run % 3);
        int shelves = run % 5 < 2 ? 23 : run % 5 == 2 ? 2 : 8;
        for (int i = 0; i < 20; i++) {
            step(dice.upTo(5), shelves);
        }
        // every other run does one thing so often that its limit is reached
        int[] favourites = {2, 10, 21, 16, 5, 32};
        int favourite = favourites[run / 2 % favourites.length];
        for (int i = 20; i < 512; i++) {
            boolean isFavourite = run % 2 == 1 && dice.oneIn(2);
            step(isFavourite ? favourite : dice.upTo(35), shelves);
        }
        look();
    }

    private void step(int choice, int shelves) {
        int a = some(shelves);
        int b = some(9);
        int w = some(Math.max(0, y.about(2) - 1));
        switch (choice) {
            case 0: case 1: {
                int farm = some(99);
                int litres = dice.oneIn(2) ? some(1000) : some(20);
                due("milk", x.milk(farm, litres), y.milk(farm, litres));
                break;
            }
            case 2: case 3: case 4: makeWheel(a); break;
            case 5: due("air", x.air(a, b) ? 1 : 0, y.air(a, b) ? 1 : 0); break;
            case 6: {
                int aisle = some(3);
                int damp = some(99);
                due("damp", x.damp(aisle, damp) ? 1 : 0, y.damp(aisle, damp) ? 1 : 0);
                break;
            }
            case 7: case 8: case 9: {
                int n = dice.oneIn(30) ? some(400) : some(4);
                due("days " + n, x.days(n), y.days(n));
                break;
            }
            case 10: case 11: case 12: case 13:
                due("move", x.move(w, a) ? 1 : 0, y.move(w, a) ? 1 : 0);
                break;
            case 14: {
                if (dice.oneIn(3)) {
                    due("sell", x.sell(w) ? 1 : 0, y.sell(w) ? 1 : 0);
                }
                break;
            }
            case 15: {
                int kind = some(2);
                int age = dice.oneIn(3) ? some(1000) : some(6);
                int least = some(5);
                int most = some(9);
                due("band", x.band(kind, age, least, most), y.band(kind, age, least, most));
                break;
            }
            case 16: case 17: case 18: due("plan", x.plan(), y.plan()); break;
            case 19: case 20: due("carry", x.carry(), y.carry()); break;
            case 21: case 22: case 23: {
                int grader = some(4);
                int mark = some(20);
                due("mark", x.mark(grader, w, mark), y.mark(grader, w, mark));
                break;
            }
            case 24: {
                int mark = some(Math.max(0, y.about(4)));
                due("untell", x.untell(mark) ? 1 : 0, y.untell(mark) ? 1 : 0);
                break;
            }
            case 25: order(goodText()); break;
            case 26: order(spoil(goodText())); break;
            case 27: look(); break;
            default: ask(w, a, choice); break;
        }
    }

    private void makeWheel(int shelf) {
        int last = Math.max(0, y.about(1) - 1);
        int kind = some(2);
        int[] m = {some(last), dice.oneIn(2) ? -1 : some(last), dice.oneIn(2) ? -1 : some(last)};
        int[] l = {1 + some(8), some(5), some(5)};
        due("wheel", x.wheel(kind, shelf, m[0], l[0], m[1], l[1], m[2], l[2]),
            y.wheel(kind, shelf, m[0], l[0], m[1], l[1], m[2], l[2]));
    }

    private void ask(int wheel, int shelf, int choice) {
        int other = some(Math.max(0, y.about(2) - 1));
        int milk = some(Math.max(0, y.about(1) - 1));
        int what = some(8);
        switch (choice) {
            case 28: due("of " + what, x.of(wheel, what), y.of(wheel, what)); break;
            case 29: due("from " + what, x.from(milk, what), y.from(milk, what)); break;
            case 30: due("suits", x.suits(wheel, shelf), y.suits(wheel, shelf)); break;
            case 31: due("planned", x.planned(wheel), y.planned(wheel)); break;
            case 32: {
                int day = some(y.about(0) + 1);
                due("grade", x.grade(wheel, day), y.grade(wheel, day));
                break;
            }
            case 33: due("beside", x.beside(wheel, other), y.beside(wheel, other)); break;
            case 34: due("reached", x.reached(milk), y.reached(milk)); break;
            default: due("about " + what, x.about(what), y.about(what)); break;
        }
    }

    private void look() {
        for (int wheel = 0; wheel < y.about(2); wheel++) {
            for (int what = 0; what < 8; what++) {
                due("of(" + wheel + ", " + what + ")", x.of(wheel, what), y.of(wheel, what));
            }
            due("planned(" + wheel + ")", x.planned(wheel), y.planned(wheel));
            due("grade(" + wheel + ")", x.grade(wheel, y.about(0)), y.grade(wheel, y.about(0)));
        }
        for (int milk = 0; milk < y.about(1); milk++) {
            for (int what = 0; what < 3; what++) {
                due("from(" + milk + ", " + what + ")", x.from(milk, what), y.from(milk, what));
            }
            due("reached(" + milk + ")", x.reached(milk), y.reached(milk));
        }
        for (int what = 0; what < 7; what++) {
            due("about(" + what + ")", x.about(what), y.about(what));
        }
    }

    private void order(String text) {
        due("end", x.end(0), y.end(0));
        for (int i = 0; i < text.length(); i += 20) {
            int[] f = new int[5];
            for (int j = 0; j < 5; j++) {
                f[j] = Check.word(text, i + 4 * j);
            }
            due("feed", x.feed(f[0], f[1], f[2], f[3], f[4]), y.feed(f[0], f[1], f[2], f[3], f[4]));
        }
        due("end", x.end(text.length()), y.end(text.length()));
        due("orders of '" + text + "'", x.orders(), y.orders());
        due("fault(0) of '" + text + "'", x.fault(0), y.fault(0));
        due("fault(1) of '" + text + "'", x.fault(1), y.fault(1));
    }

    private String goodText() {
        StringBuilder text = new StringBuilder();
        int lines = dice.oneIn(8) ? 9 : dice.upTo(8);
        int deepest = dice.upTo(9);
        for (int i = 0; i < lines && text.length() < 440; i++) {
            text.append("when ").append(e(dice.upTo(deepest))).append(" do ");
            text.append(PIECES[2 + dice.upTo(2)]).append(dice.oneIn(2) ? " ;\n" : ";");
        }
        return text.length() > 500 ? text.substring(0, 500) : text.toString();
    }

    private String e(int depth) {
        if (depth > 0) {
            switch (dice.upTo(6)) {
                case 0: return e(depth - 1) + " or " + e(dice.upTo(1));
                case 1: return e(dice.upTo(1)) + " and " + e(depth - 1);
                case 2: return "not " + e(depth - 1);
                case 3: return "(" + e(depth - 1) + ")" + PIECES[19 + dice.upTo(4)] + operand();
                case 4: return operand() + PIECES[22 + dice.upTo(1)] + "(" + e(depth - 1) + ")";
                case 5: return "(" + e(depth - 1) + ")";
                default: return "not(" + e(depth - 1) + ")";
            }
        }
        return dice.oneIn(2) ? operand() : operand() + " " + PIECES[19 + dice.upTo(4)] + " " + operand();
    }

    private String operand() {
        return dice.oneIn(2) ? String.valueOf(dice.upTo(dice.oneIn(4) ? 999999 : 30)) : PIECES[8 + dice.upTo(9)];
    }

    private String spoil(String text) {
        String spoilt = text;
        for (int i = dice.upTo(2); i >= 0; i--) {
            int at = dice.upTo(spoilt.length());
            int cut = Math.min(spoilt.length(), at + dice.upTo(3));
            String piece = dice.oneIn(3) ? String.valueOf((char) dice.upTo(255)) : PIECES[dice.upTo(PIECES.length - 1)];
            spoilt = spoilt.substring(0, at) + (dice.oneIn(3) ? "" : piece) + spoilt.substring(dice.oneIn(2) ? at : cut);
        }
        return spoilt.length() > 500 ? spoilt.substring(0, 500) : spoilt;
    }

    private void texts() {
        wildness = 100;
        for (int i = 0; i < 10; i++) {
            order(goodText());
            order(spoil(goodText()));
            StringBuilder soup = new StringBuilder(dice.oneIn(2) ? "when " : "");
            for (int j = dice.upTo(20); j >= 0; j--) {
                soup.append(PIECES[dice.upTo(PIECES.length - 1)]).append(dice.oneIn(2) ? " " : "");
            }
            order(soup.toString());
        }
    }

    /** Any numbers at all, on the class alone: nothing may be thrown. */
    private static void wild(int run) {
        CheeseCellar x = new CheeseCellar();
        Dice dice = new Dice(run);
        x.milk(1, 1000);
        x.wheel(0, 0, 0, 1, -1, 0, -1, 0);
        for (int i = 0; i < 2000; i++) {
            int a = dice.anyInt();
            int b = dice.anyInt();
            int c = dice.anyInt();
            int d = dice.anyInt();
            x.air(a, b);
            x.damp(a, b);
            x.milk(a, b);
            x.wheel(a, b, c, d, b, a, d, c);
            x.sell(a);
            x.feed(a, b, c, d, a);
            x.end(a);
            x.fault(a);
            x.of(a, b);
            x.from(a, b);
            x.band(a, b, c, d);
            x.suits(a, b);
            x.move(a, b);
            x.planned(a);
            x.mark(a, b, c);
            x.untell(a);
            x.grade(a, b);
            x.beside(a, b);
            x.reached(a);
            x.about(a);
            x.days(a);
            if (dice.oneIn(10)) {
                x.orders();
            }
            x.plan();
            x.carry();
        }
        Check.due("still a cellar", x.about(2) >= 1, true);
    }
}
