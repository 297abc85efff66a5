/** Part 2 of the document, and promises 7 to 10: one test for each sentence that names an edge. */
public final class Part2EdgesTest {
    private static final String LINE = "when 1 do turn;";
    private static final String[] NO_NAMES = {"when", "do", "turn", "wash", "brush", "or", "and", "not"};
    private static final String[] NAMES =
        {"kind", "age", "ripe", "mould", "weight", "air", "damp", "side", "shelf", "day"};

    public static void main(String[] args) {
        noneAtFirst();
        fiveHundredBytes();
        emptyText();
        wordsOfEightBytes();
        numbersOfSixDigits();
        everyByteAtTheStart();
        everyByteBehindANumber();
        everyByteBehindAWord();
        blanks();
        asLongAsCanBe();
        noLetterBehindADigit();
        noNames();
        names();
        strangeNames();
        eightLines();
        eightyOperands();
        eightyOperandsInAllLines();
        withinEightOthers();
        withinNotBeside();
        placesFromZero();
        placeOfTheEnd();
        leastAtOnePlace();
        firstByPlace();
        oneComparison();
        repeatedParts();
        wholeNumbers();
        comparisons();
        not();
        andOr();
        side();
        dayAndAge();
        feedEdges();
        feedRefused();
        highestByteFirst();
        endEdges();
        endRefused();
        endCutsOff();
        tapeIsEmptyThen();
        ordersStay();
        faultOfTheLatest();
        faultEdges();
        manyOrders();
        Check.finish();
    }

    private static void noneAtFirst() {
        Check.says("ORDERS are a text of at most 500 bytes (none at first)");
        CheeseCellar x = new CheeseCellar();
        x.milk(1, 10);
        Check.small(x, 0, 0);
        Check.due("lines", x.about(3), 0);
        Check.due("bytes", x.about(6), 0);
        x.days(9);
        Check.due("nothing washed or brushed", x.of(0, 4), 100);
        Check.due("nothing turned", x.of(0, 6), 9);
    }

    private static void fiveHundredBytes() {
        Check.says("a text of at most 500 bytes");
        Check.good(" ".repeat(485) + LINE, 1);
        Check.good(LINE + " ".repeat(485), 1);
        Check.good("when" + "\n".repeat(485) + LINE.substring(4), 1);
        Check.good(" ".repeat(500), 0);
        Check.bad(" ".repeat(486) + LINE.substring(0, 14), 2, 500);
        Check.bad(" ".repeat(499) + "$", 1, 499);
        Check.bad(" ".repeat(499) + ";", 2, 499);
        Check.bad(";".repeat(500), 2, 0);
        // a line that takes all 500 bytes
        String full = "when " + "weight+".repeat(68);
        Check.good(full + "12 do brush ;\n\n\n\n\n\n", 1);
    }

    private static void emptyText() {
        Check.says("orders = {line}");
        Check.good("", 0);
        Check.good(" ", 0);
        Check.good("\n", 0);
        Check.good(LINE, 1);
        Check.good(LINE + LINE, 2);
    }

    private static void wordsOfEightBytes() {
        Check.says("words (a .. z; 8 bytes at most)");
        Check.bad("when abcdefgh", 3, 5);
        Check.bad("when abcdefghi", 1, 5);
        Check.bad("when " + "z".repeat(8), 3, 5);
        Check.bad("when " + "z".repeat(9), 1, 5);
        Check.bad("when " + "a".repeat(495), 1, 5);
        Check.bad("abcdefgh", 2, 0);
        Check.bad("abcdefghi", 1, 0);
        Check.bad("whenwhen", 2, 0);
        Check.bad("whenwhenw", 1, 0);
        Check.bad("when a", 3, 5);
        Check.bad("when z", 3, 5);
    }

    private static void numbersOfSixDigits() {
        Check.says("N (1 to 6 digits)");
        for (String n : new String[] {"0", "9", "00", "99", "000000", "999999", "000001", "123456"}) {
            Check.good("when " + n + " do turn;", 1);
        }
        for (String n : new String[] {"0000000", "9999999", "1000000", "0000001", "99999999999999999999"}) {
            Check.bad("when " + n + " do turn;", 1, 5);
        }
        Check.good("when 123456 + 654321 do turn;", 1);
        Check.bad("when 123456 654321 do turn;", 2, 12);
    }

    private static boolean isLetter(int b) {
        return b >= 97 && b <= 122;
    }

    private static boolean isDigit(int b) {
        return b >= 48 && b <= 57;
    }

    private static boolean isSign(int b) {
        return ";<>=+-()".indexOf(b) >= 0;
    }

    private static boolean isBlank(int b) {
        return b == 32 || b == 10;
    }

    private static void everyByteAtTheStart() {
        Check.says("TOKENS: words (a .. z ..), N (..), signs ; < > = + - ( ).");
        for (int b = 0; b <= 255; b++) {
            String text = String.valueOf((char) b);
            if (isBlank(b)) {
                Check.good(text, 0);
            } else {
                Check.bad(text, isLetter(b) || isDigit(b) || isSign(b) ? 2 : 1, 0);
            }
        }
    }

    private static void everyByteBehindANumber() {
        Check.says("Blanks (32, 10) part them or not");
        for (int b = 0; b <= 255; b++) {
            String text = "when 1" + (char) b;
            if (isBlank(b) || isDigit(b) || "<>=+-".indexOf(b) >= 0) {
                Check.bad(text, 2, 7);
            } else if (isLetter(b)) {
                Check.bad(text, 1, 5);
            } else {
                Check.bad(text, isSign(b) ? 2 : 1, 6);
            }
        }
    }

    private static void everyByteBehindAWord() {
        Check.says("words, digits as long as can be");
        for (int b = 0; b <= 255; b++) {
            String text = "when age" + (char) b;
            if (isBlank(b) || "<>=+-".indexOf(b) >= 0) {
                Check.bad(text, 2, 9);
            } else if (isLetter(b)) {
                Check.bad(text, 3, 5);
            } else {
                Check.bad(text, isSign(b) || isDigit(b) ? 2 : 1, 8);
            }
        }
    }

    private static void blanks() {
        Check.says("Blanks (32, 10) part them or not");
        Check.good("when(1)do turn;", 1);
        Check.good("when1 do turn;", 1);
        Check.good("when((1)<(2))do turn;when(1)do wash;", 2);
        Check.good("  when  1  do  turn  ;  ", 1);
        Check.good("\n\nwhen\n \n1\n\ndo\n\nturn\n\n;\n\n", 1);
        Check.bad("when age<3and age>1 do turn;", 1, 9);
        Check.good("when age<(3)and age>(1)or kind do turn;", 1);
        for (char c : new char[] {0, 9, 11, 12, 13, 31, 33, 127, 160}) {
            Check.bad("when" + c + "1 do turn;", 1, 4);
            Check.bad("when 1" + c + "do turn;", 1, 6);
            Check.bad(LINE + c, 1, 15);
            Check.bad(c + LINE, 1, 0);
        }
    }

    private static void asLongAsCanBe() {
        Check.says("words, digits as long as can be");
        Check.bad("whenage do turn;", 2, 0);
        Check.bad("when agekind do turn;", 3, 5);
        Check.bad("when age dot", 2, 9);
        Check.bad("when age doturn;", 2, 9);
        Check.bad("when age do turns;", 2, 12);
        Check.bad("when nota do turn;", 3, 5);
        Check.bad("when age orair do turn;", 2, 9);
        Check.bad("when 12 3 do turn;", 2, 8);
        Check.bad("when 12age do turn;", 1, 5);
        Check.good("when age+12-kind<3 do turn;", 1);
    }

    private static void noLetterBehindADigit() {
        Check.says("no letter directly behind a digit");
        Check.bad("when 1a do turn;", 1, 5);
        Check.bad("when 1z do turn;", 1, 5);
        Check.bad("when 123456a do turn;", 1, 5);
        Check.bad("when 1do turn;", 1, 5);
        Check.bad("when age+7or 1 do turn;", 1, 9);
        Check.bad("7x", 1, 0);
        Check.bad("when 1 do turn;2x", 1, 15);
        Check.good("when 1 do turn;", 1);
        Check.good("when 1\ndo turn;", 1);
        // a digit behind a letter is a token of its own
        Check.good("when not1 do turn;", 1);
        Check.good("when 1 or2 and3 do turn;", 1);
        Check.bad("when age7 do turn;", 2, 8);
    }

    private static void noNames() {
        Check.says("when do turn wash brush or and not are no NAMES.");
        for (String word : NO_NAMES) {
            if (!word.equals("not")) {
                Check.bad("when " + word + " do turn;", 2, 5);
                Check.bad("when (" + word + ") do turn;", 2, 6);
                Check.bad("when not " + word + " do turn;", 2, 9);
            }
            Check.bad("when 1+" + word + " do turn;", 2, 7);
            Check.bad("when 1<" + word + " do turn;", 2, 7);
        }
        Check.bad("when not do turn;", 2, 9);
    }

    private static void names() {
        Check.says("NAMES: kind, age, ripe, mould, weight, air, damp, side (..), shelf, day.");
        for (String name : NAMES) {
            Check.good("when " + name + " do turn;", 1);
            Check.good("when 1+" + name + "=" + name + " do turn;", 1);
            Check.bad("when 1 do " + name + ";", 2, 10);
            Check.bad(name, 2, 0);
        }
    }

    private static void strangeNames() {
        Check.says("3 a NAME that there is not");
        String[] known = new String[NAMES.length + NO_NAMES.length];
        System.arraycopy(NAMES, 0, known, 0, NAMES.length);
        System.arraycopy(NO_NAMES, 0, known, NAMES.length, NO_NAMES.length);
        for (String name : known) {
            isStrange(name + "x");
            isStrange("x" + name);
            isStrange("x" + name.substring(1));
            isStrange(name.substring(0, name.length() - 1) + "x");
            isStrange(name + name.charAt(0));
        }
        for (String name : NAMES) {
            isStrange(name.substring(1));
            isStrange(name.substring(0, name.length() - 1));
        }
    }

    private static void isStrange(String name) {
        Check.bad("when " + name, 3, 5);
        Check.bad("when 1+" + name + " do turn;", 3, 7);
    }

    private static void eightLines() {
        Check.says("At most 8 lines .. (a 9th line: at its when");
        Check.good(LINE.repeat(7), 7);
        Check.good(LINE.repeat(8), 8);
        Check.good(LINE.repeat(8) + " \n ", 8);
        Check.bad(LINE.repeat(9), 2, 120);
        Check.bad(LINE.repeat(8) + "when", 2, 120);
        Check.bad(LINE.repeat(8) + "\n when", 2, 122);
        Check.bad(LINE.repeat(8) + " when $", 2, 121);
        Check.bad(LINE.repeat(8) + "when xyz", 2, 120);
        Check.bad(LINE.repeat(8) + "$", 1, 120);
        Check.bad(LINE.repeat(8) + "do", 2, 120);
        Check.bad(LINE.repeat(7) + LINE.substring(0, 14), 2, 119);
    }

    private static void eightyOperands() {
        Check.says("80 N and NAMES .. (.. an 81st N or NAME ..: at it)");
        for (String last : new String[] {"1", "999999", "day"}) {
            Check.good("when " + "1+".repeat(79) + last + " do turn;", 1);
            Check.bad("when " + "1+".repeat(80) + last + " do turn;", 2, 165);
        }
        Check.good("when " + "day-".repeat(79) + "day do turn;", 1);
        Check.bad("when " + "day-".repeat(80) + "day do turn;", 2, 325);
        Check.bad("when " + "1+".repeat(79) + "xyz", 3, 163);
        Check.bad("when " + "1+".repeat(80) + "xyz", 2, 165);
        Check.bad("when " + "1+".repeat(80) + "1234567", 1, 165);
        Check.bad("when " + "1+".repeat(80) + "( 1)", 2, 167);
        Check.bad("when " + "1+".repeat(79) + "1 or not 1", 2, 172);
        Check.bad("when " + "1+".repeat(79) + "1 do turn;when day", 2, 178);
        // what is behind the 80th counts as ever
        Check.bad("when " + "1+".repeat(79) + "1 1", 2, 165);
        Check.bad("when " + "1+".repeat(79) + "1 do turn;;", 2, 173);
    }

    private static void eightyOperandsInAllLines() {
        Check.says("80 N and NAMES");
        String ten = "when " + "1+".repeat(9) + "1 do turn;";
        Check.good(ten.repeat(8), 8);
        String eleven = "when 1+" + ten.substring(5);
        Check.bad(ten.repeat(7) + eleven, 2, 7 * ten.length() + 25);
        Check.bad(eleven + ten.repeat(7), 2, eleven.length() + 7 * ten.length() - 10);
        CheeseCellar x = new CheeseCellar();
        // each text is counted by itself
        for (int i = 0; i < 3; i++) {
            Check.due("orders of 80", Check.give(x, ten.repeat(8)), 8);
        }
        Check.due("orders of 81", Check.give(x, ten.repeat(7) + eleven), -1);
        Check.due("orders of 80", Check.give(x, ten.repeat(8)), 8);
    }

    /** Every mixture of ( and not, so many deep. */
    private static void withinEightOthers() {
        Check.says("an e or a one within 8 others (in ( ), behind not)");
        for (int depth = 6; depth <= 9; depth++) {
            for (int mixture = 0; mixture < 1 << depth; mixture++) {
                mix(depth, mixture);
            }
        }
        Check.bad("when " + "(".repeat(8), 2, 13);
        Check.bad("when " + "(".repeat(9), 2, 13);
        Check.bad("when " + "(".repeat(8) + "$", 1, 13);
        Check.bad("when " + "(".repeat(8) + "xyz", 2, 13);
        Check.bad("when " + "(".repeat(7) + "xyz", 3, 12);
        Check.bad("when " + "(".repeat(8) + "  1", 2, 15);
        Check.bad("when " + "not ".repeat(8) + "(1)", 2, 37);
        Check.bad("when " + "(".repeat(400), 2, 13);
        Check.bad("when " + "not ".repeat(120), 2, 37);
    }

    private static void mix(int depth, int mixture) {
        StringBuilder text = new StringBuilder("when ");
        StringBuilder close = new StringBuilder();
        int placeOfNinth = 0;
        for (int i = 0; i < depth; i++) {
            placeOfNinth = i == 8 ? text.length() : placeOfNinth;
            boolean isNot = (mixture >> i & 1) != 0;
            text.append(isNot ? "not " : "(");
            close.append(isNot ? "" : ")");
        }
        placeOfNinth = depth == 8 ? text.length() : placeOfNinth;
        String whole = text + "1" + close + " do turn;";
        if (depth <= 7) {
            Check.good(whole, 1);
        } else {
            Check.bad(whole, 2, placeOfNinth);
        }
    }

    private static void withinNotBeside() {
        Check.says("within 8 others");
        String seven = "(".repeat(7) + "1" + ")".repeat(7);
        for (String joint : new String[] {"+", "-", "<", ">", "=", " and ", " or "}) {
            Check.good("when " + seven + joint + seven + " do turn;", 1);
            Check.good("when 1" + joint + seven + " do turn;", 1);
            Check.bad("when 1" + joint + "(" + seven + ") do turn;", 2, 14 + joint.length());
        }
        String nots = "not ".repeat(7) + "1";
        Check.good("when " + nots + " and " + nots + " or " + nots + " do turn;", 1);
        Check.good("when " + seven + " do turn;when " + nots + " do turn;", 2);
        // the right side of a comparison is within the nots before it
        Check.good("when not not 1<(((((2))))) do turn;", 1);
        Check.bad("when not not 1<((((((2)))))) do turn;", 2, 21);
        // what follows a closed ( ) or a joint is as deep as before
        Check.good("when not not (1)+(((((2))))) do turn;", 1);
        Check.bad("when not not (1)+((((((2)))))) do turn;", 2, 23);
        Check.good("when not not 1 and " + seven + " do turn;", 1);
    }

    private static void placesFromZero() {
        Check.says("the first by its place (bytes from 0");
        for (int at = 0; at < 499; at += 7) {
            Check.bad(" ".repeat(at) + "$", 1, at);
            Check.bad("\n".repeat(at) + "do", 2, at);
        }
    }

    private static void placeOfTheEnd() {
        Check.says("the end: the text's length");
        String[] open = {"when", "when ", "when 1", "when 1 ", "when 1+", "when 1<", "when (", "when (1", "when not",
            "when 1 and", "when 1 or \n", "when 1 do", "when 1 do turn", "when 1 do turn  ", "when(1)"};
        for (String text : open) {
            Check.bad(text, 2, text.length());
            Check.bad(LINE + text, 2, 15 + text.length());
        }
    }

    private static void leastAtOnePlace() {
        Check.says("at one place the least");
        // 1 before 2: no token where nothing of its kind could stand either
        Check.bad("$", 1, 0);
        Check.bad("abcdefghi", 1, 0);
        Check.bad("1234567", 1, 0);
        Check.bad("when 1 abcdefghi", 1, 7);
        Check.bad("when 1 1234567", 1, 7);
        // 1 before 3
        Check.bad("when abcdefghi", 1, 5);
        // 2 before 3: a strange name where no name can stand
        Check.bad("xyz", 2, 0);
        Check.bad("when 1 xyz", 2, 7);
        Check.bad("when 1 do xyz", 2, 10);
        Check.bad("when 1 do turn xyz", 2, 15);
        Check.bad("when (1 xyz", 2, 8);
        Check.bad(LINE + "xyz", 2, 15);
    }

    private static void firstByPlace() {
        Check.says("FAULTS, the first by its place");
        Check.bad("when xyz $", 3, 5);
        Check.bad("when xyz do do", 3, 5);
        Check.bad("when 1 1 $", 2, 7);
        Check.bad("when 1 1 xyz", 2, 7);
        Check.bad("when xyz+abc", 3, 5);
        Check.bad("when $ $", 1, 5);
        Check.bad("when do xyz abcdefghi", 2, 5);
        Check.bad("when 1 $ xyz", 1, 7);
        Check.bad("do" + "$".repeat(498), 2, 0);
    }

    private static void oneComparison() {
        Check.says("one = not one | sum [( < | > | = ) sum]");
        for (String sign : new String[] {"<", ">", "="}) {
            Check.good("when 1" + sign + "2 do turn;", 1);
            Check.bad("when 1" + sign + "2" + sign + "3 do turn;", 2, 8);
            Check.bad("when 1" + sign + sign + "2 do turn;", 2, 7);
            Check.bad("when 1" + sign + "not 2 do turn;", 2, 7);
            Check.bad("when " + sign + "2 do turn;", 2, 5);
            Check.good("when (1" + sign + "2)" + sign + "3 do turn;", 1);
            Check.good("when 1" + sign + "2 and 3" + sign + "4 or not 5" + sign + "6 do turn;", 1);
        }
        Check.bad("when 1<=2 do turn;", 2, 7);
        Check.bad("when 1<2=1 do turn;", 2, 8);
    }

    private static void repeatedParts() {
        Check.says("e = both {or both}.  both = one {and one}.  sum = term {( + | - ) term}.  term = N | NAME | ( e ).");
        for (String joint : new String[] {" or ", " and ", "+", "-"}) {
            for (int times = 0; times <= 3; times++) {
                Check.good("when " + ("1" + joint).repeat(times) + "1 do turn;", 1);
            }
            Check.bad("when 1" + joint + "do turn;", 2, 6 + joint.length());
            int blank = joint.startsWith(" ") ? 1 : 0;
            Check.bad("when 1" + joint + joint + "1 do turn;", 2, 6 + joint.length() + blank);
            Check.bad("when" + joint + "1 do turn;", 2, 4 + blank);
        }
        Check.bad("when () do turn;", 2, 6);
        Check.bad("when (1 do turn;", 2, 8);
        Check.bad("when 1) do turn;", 2, 6);
        Check.bad("when (1)) do turn;", 2, 8);
        Check.bad("when (1)(1) do turn;", 2, 8);
        Check.bad("when do turn;", 2, 5);
        Check.bad(";", 2, 0);
        Check.bad(LINE + ";", 2, 15);
        Check.bad("when 1 do turn wash;", 2, 15);
        Check.bad("when 1 do;", 2, 9);
        Check.bad("when 1 turn;", 2, 7);
        Check.bad("when 1;", 2, 6);
    }

    /** A cellar with wheel 0 (HARD, 300000 of weight, age 4, side 4) on shelf 13 under damp 47, on day 9. */
    private static CheeseCellar aged() {
        CheeseCellar x = new CheeseCellar();
        x.milk(1, 1000);
        x.milk(1, 1000);
        x.milk(1, 1000);
        x.damp(2, 47);
        x.days(5);
        x.wheel(2, 13, 0, 1000, 1, 1000, 2, 1000);
        x.days(4);
        return x;
    }

    private static void holds(String e, boolean want) {
        CheeseCellar x = aged();
        Check.due("orders of " + e, Check.give(x, "when " + e + " do wash;"), 1);
        x.days(1);
        Check.due("weight behind a wash when " + e, x.of(0, 4), want ? 300005 : 300000);
    }

    private static void worth(String e, int want) {
        holds("(" + e + ")=" + (want < 0 ? "0-" + -want : String.valueOf(want)), true);
        holds(e, want != 0);
    }

    private static void wholeNumbers() {
        Check.says("Ints, wrapping");
        worth("0", 0);
        worth("000000", 0);
        worth("000010", 10);
        worth("999999", 999999);
        worth("5-2-3", 0);
        worth("5-(2-3)", 6);
        worth("0-999999", -999999);
        worth("0-1", -1);
        worth("1-2+3-4+5", 3);
        // sums far beyond one N, on both sides of 0; none of 80 parts can reach where ints wrap
        String fifty = "weight+".repeat(49) + "weight";
        holds(fifty + ">999999", true);
        holds("0-" + fifty.replace('+', '-') + "<0-999999", true);
        holds("(" + "weight+".repeat(29) + "weight)-(" + "weight+".repeat(29) + "weight)", false);
        holds("weight+".repeat(29) + "weight-1=" + "weight+".repeat(29) + "weight", false);
    }

    private static void comparisons() {
        Check.says("< > = 1 or 0");
        String[] values = {"0-2", "0-1", "0", "1", "2", "3"};
        for (int i = 0; i < values.length; i++) {
            for (int j = 0; j < values.length; j++) {
                worth("(" + values[i] + "<" + values[j] + ")", i < j ? 1 : 0);
                worth("(" + values[i] + ">" + values[j] + ")", i > j ? 1 : 0);
                worth("(" + values[i] + "=" + values[j] + ")", i == j ? 1 : 0);
            }
        }
    }

    private static void not() {
        Check.says("not 1 of 0, else 0");
        String[] values = {"(0-2)", "(0-1)", "0", "1", "2", "999999"};
        for (String value : values) {
            worth("not " + value, value.equals("0") ? 1 : 0);
            worth("not not " + value, value.equals("0") ? 0 : 1);
        }
        // not takes the whole comparison behind it, and no and
        worth("not 1<0", 1);
        worth("not 0=0", 0);
        worth("not 0 and 0", 0);
        worth("not 1 or 1", 1);
    }

    private static void andOr() {
        Check.says("and, or 1 or 0 by both sides");
        String[] values = {"(0-2)", "(0-1)", "0", "1", "2", "999999"};
        for (String a : values) {
            for (String b : values) {
                worth(a + " and " + b, a.equals("0") || b.equals("0") ? 0 : 1);
                worth(a + " or " + b, a.equals("0") && b.equals("0") ? 0 : 1);
            }
        }
        worth("1 or 0 and 0", 1);
        worth("0 and 0 or 1", 1);
        worth("0 and (0 or 1)", 0);
        worth("2 and 3 and 4", 1);
        worth("2 and 3 and 0", 0);
        worth("0 or 0 or 7", 1);
        worth("(7)", 7);
    }

    private static void side() {
        Check.says("side (how many DAYS were done since it was turned last, or made)");
        holds("side=4", true);
        holds("side=3", false);
        CheeseCellar x = new CheeseCellar();
        x.milk(1, 10);
        x.days(3);
        Check.small(x, 0, 0);
        // on the day that it was made, side is 0; on the day behind a turn, 1
        Check.give(x, "when side=0 do wash;when day=6 do turn;when side=0 and day=6 do wash;");
        int[] weight = {105, 105, 105, 110, 110};
        int[] side = {1, 2, 3, 1, 2};
        for (int i = 0; i < weight.length; i++) {
            x.days(1);
            Check.due("weight " + i, x.of(0, 4), weight[i]);
            Check.due("side " + i, x.of(0, 6), side[i]);
        }
    }

    private static void dayAndAge() {
        Check.says("NAMES: .. age, .. shelf, day");
        holds("day=9", true);
        holds("day=8", false);
        holds("day=10", false);
        holds("age=4", true);
        holds("age=5", false);
        holds("shelf=13", true);
        holds("damp=47", true);
        holds("air=0", true);
        holds("kind=2", true);
        holds("ripe=4", true);
        holds("mould=9", true);
        holds("weight=300000", true);
        CheeseCellar x = aged();
        x.move(0, 0);
        Check.give(x, "when shelf=0 and damp=0 do wash;");
        x.days(1);
        Check.due("behind a move", x.of(0, 4), 300005);
    }

    private static void feedEdges() {
        Check.says("how many there are; NONE, and nothing comes, if there would be more than 500.");
        CheeseCellar x = new CheeseCellar();
        for (int i = 1; i <= 25; i++) {
            Check.due("feed " + i, x.feed(0x20202020, 0x20202020, 0x20202020, 0x20202020, 0x20202020), 20 * i);
        }
        Check.due("a 26th", x.feed(0, 0, 0, 0, 0), -1);
        Check.due("bytes", x.about(6), 500);
        Check.due("orders of 500 blanks", x.orders(), 0);
        for (int size : new int[] {0, 1, 479, 480}) {
            CheeseCellar y = new CheeseCellar();
            Check.put(y, "$".repeat(size));
            Check.due("feed behind " + size, y.feed(0, 0, 0, 0, 0), size + 20);
        }
    }

    private static void feedRefused() {
        Check.says("NONE, and nothing comes, if there would be more than 500.");
        for (int size : new int[] {481, 482, 485, 499, 500}) {
            new Twin(x -> {
                x.milk(1, 10);
                Check.small(x, 0, 0);
                Check.put(x, LINE + "\n".repeat(size - 15));
                x.plan();
            }).refuses("feed behind " + size, x -> x.feed(-1, -1, -1, -1, -1), -1);
        }
    }

    private static void highestByteFirst() {
        Check.says("Twenty bytes come behind those on the TAPE, the highest of each first");
        for (int at = 0; at < 20; at++) {
            for (int b : new int[] {0, 1, 127, 128, 255}) {
                int[] words = {0x20202020, 0x20202020, 0x20202020, 0x20202020, 0x20202020};
                int shift = 24 - at % 4 * 8;
                words[at / 4] = words[at / 4] & ~(255 << shift) | b << shift;
                CheeseCellar x = new CheeseCellar();
                x.feed(0x20202020, 0x20202020, 0x20202020, 0x20202020, 0x20202020);
                x.feed(words[0], words[1], words[2], words[3], words[4]);
                Check.due("orders with byte " + b + " at " + (20 + at), x.orders(), -1);
                Check.due("its fault", x.fault(0), 1);
                Check.due("its place", x.fault(1), 20 + at);
            }
        }
    }

    private static void endEdges() {
        Check.says("The TAPE has its first n bytes: n");
        CheeseCellar x = new CheeseCellar();
        Check.due("end(0) of an empty tape", x.end(0), 0);
        Check.due("end(1) of an empty tape", x.end(1), -1);
        x.feed(0, 0, 0, 0, 0);
        Check.due("end(21)", x.end(21), -1);
        Check.due("end(20), all", x.end(20), 20);
        Check.due("end(19)", x.end(19), 19);
        Check.due("end(20), one too many", x.end(20), -1);
        Check.due("end(1)", x.end(1), 1);
        Check.due("bytes", x.about(6), 1);
        Check.due("end(0)", x.end(0), 0);
        Check.due("bytes", x.about(6), 0);
        Check.put(x, " ".repeat(500));
        Check.due("end(501)", x.end(501), -1);
        Check.due("end(500)", x.end(500), 500);
    }

    private static void endRefused() {
        Check.says("NONE, doing nothing, if it has not so many, or n is below 0.");
        // 23 bytes are on the tape of the busy cellar
        for (int n : Check.outside(23)) {
            Twin.busy().refuses("end(" + n + ")", x -> x.end(n), -1);
        }
        Twin empty = new Twin(x -> x.milk(1, 1));
        for (int n : Check.outside(0)) {
            empty.refuses("end(" + n + ") of an empty tape", x -> x.end(n), -1);
        }
    }

    private static void endCutsOff() {
        Check.says("Twenty bytes come behind those on the TAPE");
        CheeseCellar x = new CheeseCellar();
        x.feed(Check.word("when", 0), Check.word(" 1 d", 0), Check.word("o tu", 0), Check.word("$$$$", 0), 0);
        x.end(12);
        x.feed(Check.word("rn; ", 0), 0x20202020, 0x0a0a0a0a, 0x20202020, 0x20202020);
        Check.due("bytes", x.about(6), 32);
        Check.due("orders()", x.orders(), 1);
        // what was cut off does not come back with the next bytes
        Check.put(x, LINE + LINE);
        x.end(15);
        Check.due("orders() of the first line", x.orders(), 1);
        Check.put(x, "when 12 do turn;");
        x.end(6);
        Check.due("orders() of a cut word", x.orders(), -1);
        Check.due("its place", x.fault(1), 6);
    }

    private static void tapeIsEmptyThen() {
        Check.says("The TAPE (empty then) is ORDERS: how many lines");
        CheeseCellar x = new CheeseCellar();
        Check.due("good orders", Check.give(x, LINE + LINE), 2);
        Check.due("bytes", x.about(6), 0);
        Check.due("end(1)", x.end(1), -1);
        Check.due("faulty orders", Check.give(x, "when"), -1);
        Check.due("bytes", x.about(6), 0);
        Check.due("the next feed", x.feed(0, 0, 0, 0, 0), 20);
        x.end(0);
        Check.due("orders of an empty tape", x.orders(), 0);
        Check.due("lines", x.about(3), 0);
        Check.put(x, LINE);
        x.orders();
        Check.due("the same again is an empty tape", x.orders(), 0);
    }

    private static void ordersStay() {
        Check.says("NONE: a FAULT (the ORDERS stay).");
        String[] faulty = {"$", "when", "when 0 do turn;$", "when xyz", "when 1 do brush;".repeat(9),
            "when 1 do brush;when", "when 0 do wash; 1", "when " + "1+".repeat(80) + "1"};
        for (String text : faulty) {
            CheeseCellar x = new CheeseCellar();
            x.milk(1, 10);
            Check.small(x, 0, 0);
            Check.give(x, "when side>1 do turn;when 3=3 do wash;");
            Check.due("orders of " + text, Check.give(x, text), -1);
            Check.due("lines", x.about(3), 2);
            x.days(3);
            Check.due("weight by the old orders", x.of(0, 4), 115);
            Check.due("side by the old orders", x.of(0, 6), 1);
        }
        // no fault: they do not stay
        CheeseCellar x = new CheeseCellar();
        x.milk(1, 10);
        Check.small(x, 0, 0);
        Check.give(x, "when 1 do wash;when 1 do wash;");
        Check.due("new orders", Check.give(x, "when 1 do brush;"), 1);
        x.days(1);
        Check.due("weight by the new orders", x.of(0, 4), 98);
        x.orders();
        x.days(1);
        Check.due("weight by no orders", x.of(0, 4), 98);
    }

    private static void faultOfTheLatest() {
        Check.says("Of the latest orders() what 0: its FAULT (0), 1: its place (NONE).");
        CheeseCellar x = new CheeseCellar();
        Check.due("fault(0) before any", x.fault(0), 0);
        Check.due("fault(1) before any", x.fault(1), -1);
        String[] texts = {"$", LINE, "when", "", "when x", "do", " $"};
        int[] faults = {1, 0, 2, 0, 3, 2, 1};
        int[] places = {0, -1, 4, -1, 5, 0, 1};
        for (int i = 0; i < texts.length; i++) {
            Check.give(x, texts[i]);
            Check.due("fault(0) of " + texts[i], x.fault(0), faults[i]);
            Check.due("fault(1) of " + texts[i], x.fault(1), places[i]);
            Check.put(x, "when 1 1");
            Check.due("fault(0), not read yet", x.fault(0), faults[i]);
            Check.due("fault(1), not read yet", x.fault(1), places[i]);
            x.end(0);
        }
    }

    private static void faultEdges() {
        Check.says("NONE for another what.");
        for (String text : new String[] {"", "when x"}) {
            CheeseCellar x = new CheeseCellar();
            Check.give(x, text);
            for (int what : Check.outside(1)) {
                Check.due("fault(" + what + ")", x.fault(what), -1);
            }
        }
    }

    /** Orders told again and again on one object: nothing of the old ones is left. */
    private static void manyOrders() {
        Check.says("The TAPE (empty then) is ORDERS");
        CheeseCellar x = new CheeseCellar();
        x.milk(1, 1000);
        x.wheel(0, 0, 0, 1000, -1, 0, -1, 0);
        int weight = 100000;
        String wash = "when 1+0+0+0+0+0+0+0 do wash;";
        String brush = "when 0+0 do wash;when not 0 and 2>1 do brush;";
        for (int i = 0; i < 25; i++) {
            Check.due("orders to wash", Check.give(x, wash.repeat(8)), 8);
            x.days(1);
            weight += 40;
            Check.due("weight", x.of(0, 4), weight);
            Check.give(x, "when 1 do brush;when 1 do brush;$");
            Check.due("orders to brush", Check.give(x, brush), 2);
            x.days(1);
            weight -= 2;
            Check.due("weight", x.of(0, 4), weight);
        }
    }
}
