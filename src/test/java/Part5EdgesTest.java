/** Part 5 of the document, and promises 20 to 24: one test for each sentence that names an edge. */
public final class Part5EdgesTest {
    public static void main(String[] args) {
        graders();
        markValues();
        markOfAnyWheel();
        markRefused();
        hundredMarks();
        untoldMarksCount();
        middleOfOdd();
        lowerOfEven();
        middleInOrder();
        lastOfEachGrader();
        toldOnOrBefore();
        untoldOnOrBefore();
        untoldOnTheSameDay();
        lastOfThoseKnown();
        untellRefused();
        untellKeepsItsDay();
        gradeOfNone();
        gradeDays();
        gradeOfOneWheel();
        gradeOfSold();
        besideAtADaysEnd();
        besideLeftOnTheDay();
        besideCameAsOtherLeft();
        besideOnOneShelf();
        besideByAnyStays();
        besideAndSales();
        besideByCarry();
        besideEdges();
        twoHundredStays();
        staysFull();
        soldStayIsKept();
        reachedMadeFrom();
        reachedOneStep();
        reachedOnWhateverDay();
        reachedBits();
        reachedEdges();
        Check.finish();
    }

    /** Wheels of one litre each on these shelves. */
    private static CheeseCellar cellar(int... shelves) {
        CheeseCellar x = new CheeseCellar();
        x.milk(1, 1000);
        for (int shelf : shelves) {
            Check.small(x, 0, shelf);
        }
        return x;
    }

    private static void graders() {
        Check.says("GRADERS are 0 .. 4.");
        CheeseCellar x = cellar(0);
        for (int grader = 0; grader <= 4; grader++) {
            Check.due("mark of " + grader, x.mark(grader, 0, 10 + grader), grader);
            Check.due("grade", x.grade(0, 0), 10 + grader / 2);
        }
        for (int grader : Check.outside(4)) {
            Twin.busy().refuses("mark of " + grader, y -> y.mark(grader, 0, 7), -1);
        }
    }

    private static void markValues() {
        Check.says("by a GRADER for a WHEEL (0 .. 20)");
        for (int value = 0; value <= 20; value++) {
            CheeseCellar x = cellar(0);
            Check.due("mark of " + value, x.mark(0, 0, value), 0);
            Check.due("grade", x.grade(0, 0), value);
        }
        for (int value : Check.outside(20)) {
            Twin.busy().refuses("mark " + value, y -> y.mark(0, 0, value), -1);
        }
    }

    private static void markOfAnyWheel() {
        Check.says("for a WHEEL");
        CheeseCellar x = new CheeseCellar();
        x.milk(1, 100);
        for (int i = 0; i < 40; i++) {
            Check.small(x, 0, i % 24);
            Check.due("mark of wheel " + i, x.mark(i % 5, i, i % 21), i);
        }
        for (int i = 0; i < 40; i++) {
            Check.due("grade of wheel " + i, x.grade(i, 0), i % 21);
        }
    }

    private static void markRefused() {
        Check.says("A MARK: its number; NONE, doing nothing, if it can't be");
        for (int wheel : Check.outside(3)) {
            Twin.busy().refuses("mark for " + wheel, x -> x.mark(0, wheel, 7), -1);
        }
        Twin.busy().refuses("mark for 39", x -> x.mark(0, 39, 7), -1);
        Twin.busy().refuses("mark for 40", x -> x.mark(0, 40, 7), -1);
        Check.due("a mark in an empty cellar", new CheeseCellar().mark(0, 0, 7), -1);
    }

    private static void goHundredMarks(CheeseCellar x) {
        x.milk(1, 100);
        Check.small(x, 0, 0);
        Check.small(x, 0, 0);
        for (int i = 0; i < 100; i++) {
            Check.due("mark " + i, x.mark(i % 5, i / 99, i % 21), i);
        }
    }

    private static void hundredMarks() {
        Check.says("MARKS, 100 at most .. NONE, doing nothing, if it can't be, or there are 100.");
        CheeseCellar x = new CheeseCellar();
        goHundredMarks(x);
        Check.due("marks", x.about(4), 100);
        Check.due("the last one's grade", x.grade(1, 0), 99 % 21);
        Check.due("untell(99)", x.untell(99), true);
        Check.due("grade without it", x.grade(1, 0), -1);
        Check.due("untell(100)", x.untell(100), false);
        new Twin(Part5EdgesTest::goHundredMarks).refuses("a 101st mark", y -> y.mark(0, 0, 7), -1);
    }

    private static void untoldMarksCount() {
        Check.says("MARKS, 100 at most");
        new Twin(x -> {
            goHundredMarks(x);
            x.untell(0);
            x.untell(50);
        }).refuses("a 101st mark with two untold", x -> x.mark(0, 0, 7), -1);
        CheeseCellar x = cellar(0);
        x.mark(0, 0, 1);
        x.untell(0);
        Check.due("marks with one untold", x.about(4), 1);
        Check.due("the next one's number", x.mark(0, 0, 1), 1);
    }

    private static void middle(int want, int... marks) {
        CheeseCellar x = cellar(0);
        for (int i = 0; i < marks.length; i++) {
            x.mark(i, 0, marks[i]);
        }
        Check.due("grade of " + java.util.Arrays.toString(marks), x.grade(0, 0), want);
    }

    private static void middleOfOdd() {
        Check.says("the GRADE of a WHEEL is the middle one, in order");
        middle(7, 7);
        middle(0, 0);
        middle(20, 20);
        middle(5, 9, 3, 5);
        middle(5, 5, 3, 9);
        middle(0, 0, 20, 0);
        middle(20, 0, 20, 20);
        middle(11, 20, 0, 20, 0, 11);
        middle(3, 5, 4, 3, 2, 1);
        middle(6, 6, 6, 6, 6, 6);
    }

    private static void lowerOfEven() {
        Check.says("(of an even number the lower of both)");
        middle(3, 9, 3);
        middle(3, 3, 9);
        middle(0, 20, 0);
        middle(19, 19, 20);
        middle(2, 1, 4, 3, 2);
        middle(0, 0, 0, 20, 20);
        middle(0, 20, 20, 0, 0);
        middle(5, 5, 5, 5, 5);
        middle(20, 20, 20, 0, 20);
    }

    private static void middleInOrder() {
        Check.says("in order");
        int[] m = {2, 4, 6, 8};
        for (int turn = 0; turn < 4; turn++) {
            middle(4, m[turn], m[(turn + 1) % 4], m[(turn + 2) % 4], m[(turn + 3) % 4]);
            middle(4, m[turn], m[(turn + 3) % 4], m[(turn + 2) % 4], m[(turn + 1) % 4]);
        }
    }

    private static void lastOfEachGrader() {
        Check.says("of the last MARKS of each GRADER");
        CheeseCellar x = cellar(0);
        x.mark(0, 0, 20);
        x.mark(0, 0, 3);
        Check.due("on one day the later", x.grade(0, 0), 3);
        x.mark(1, 0, 9);
        x.mark(1, 0, 1);
        x.mark(1, 0, 5);
        Check.due("two graders", x.grade(0, 0), 3);
        x.mark(2, 0, 12);
        Check.due("three graders", x.grade(0, 0), 5);
        x.mark(0, 0, 20);
        Check.due("the first one anew", x.grade(0, 0), 12);
    }

    private static void toldOnOrBefore() {
        Check.says("of those TOLD on k or before");
        CheeseCellar x = cellar(0);
        x.days(3);
        x.mark(0, 0, 4);
        x.days(2);
        x.mark(0, 0, 8);
        int[] want = {-1, -1, -1, 4, 4, 8, 8};
        for (int day = 0; day < want.length; day++) {
            Check.due("grade(0, " + day + ")", x.grade(0, day), want[day]);
        }
        x.days(100);
        for (int day = 0; day < want.length; day++) {
            Check.due("grade(0, " + day + ") later", x.grade(0, day), want[day]);
        }
    }

    private static void untoldOnOrBefore() {
        Check.says("and not UNTOLD on k or before");
        CheeseCellar x = cellar(0);
        x.days(1);
        x.mark(0, 0, 4);
        x.days(3);
        x.untell(0);
        int[] want = {-1, 4, 4, 4, -1, -1};
        for (int day = 0; day < want.length; day++) {
            Check.due("grade(0, " + day + ")", x.grade(0, day), want[day]);
        }
    }

    private static void untoldOnTheSameDay() {
        Check.says("one may be UNTOLD later (or the same DAY)");
        for (int day = 0; day <= 2; day++) {
            CheeseCellar x = cellar(0);
            x.days(day);
            x.mark(0, 0, 4);
            Check.due("untell(0)", x.untell(0), true);
            for (int k = 0; k <= 4; k++) {
                Check.due("grade(0, " + k + ")", x.grade(0, k), -1);
            }
        }
        CheeseCellar x = cellar(0);
        x.mark(0, 0, 4);
        x.days(400);
        Check.due("untell(0) much later", x.untell(0), true);
        Check.due("the day before", x.grade(0, 399), 4);
        Check.due("the day", x.grade(0, 400), -1);
    }

    private static void lastOfThoseKnown() {
        Check.says("of the last MARKS of each GRADER .., of those TOLD on k or before and not UNTOLD on k or before");
        CheeseCellar x = cellar(0);
        x.mark(0, 0, 1);
        x.mark(0, 0, 2);
        x.mark(0, 0, 3);
        x.days(1);
        x.untell(2);
        Check.due("the one before counts again", x.grade(0, 1), 2);
        x.untell(0);
        Check.due("an earlier one untold", x.grade(0, 1), 2);
        x.days(1);
        x.untell(1);
        Check.due("none is left", x.grade(0, 2), -1);
        Check.due("the day before", x.grade(0, 1), 2);
        Check.due("the first day", x.grade(0, 0), 3);
        x.mark(0, 0, 9);
        Check.due("a new one", x.grade(0, 2), 9);
    }

    private static void untellRefused() {
        Check.says("A MARK is UNTOLD: true; false if there is none such, or it is so already.");
        // marks 0 .. 2 are there, 1 is untold
        Twin.busy().refuses("untell(1) again", x -> x.untell(1));
        for (int mark : Check.outside(2)) {
            Twin.busy().refuses("untell(" + mark + ")", x -> x.untell(mark));
        }
        Twin.busy().refuses("untell(99)", x -> x.untell(99));
        Twin.busy().refuses("untell(100)", x -> x.untell(100));
        Check.due("the first", Twin.busyCellar().untell(0), true);
        Check.due("the last", Twin.busyCellar().untell(2), true);
    }

    private static void untellKeepsItsDay() {
        Check.says("false if .. it is so already");
        CheeseCellar x = cellar(0);
        x.mark(0, 0, 4);
        x.days(2);
        Check.due("untell(0)", x.untell(0), true);
        x.days(3);
        Check.due("untell(0) again", x.untell(0), false);
        int[] want = {4, 4, -1, -1, -1, -1};
        for (int day = 0; day < want.length; day++) {
            Check.due("grade(0, " + day + ")", x.grade(0, day), want[day]);
        }
    }

    private static void gradeOfNone() {
        Check.says("NONE if there are no MARKS, or there is none such.");
        CheeseCellar x = cellar(0, 0);
        Check.due("no marks", x.grade(0, 0), -1);
        x.mark(0, 1, 5);
        Check.due("no marks of this one", x.grade(0, 0), -1);
        Check.due("the other one", x.grade(1, 0), 5);
        for (int wheel : Check.outside(1)) {
            Check.due("grade(" + wheel + ", 0)", x.grade(wheel, 0), -1);
        }
        // a mark of 0 is a mark
        x.mark(0, 0, 0);
        Check.due("a grade of 0", x.grade(0, 0), 0);
    }

    private static void gradeDays() {
        Check.says("GRADE AS KNOWN on a day");
        CheeseCellar x = cellar(0);
        x.mark(0, 0, 5);
        x.days(1);
        x.mark(0, 0, 6);
        Check.due("day 0", x.grade(0, 0), 5);
        Check.due("day 1", x.grade(0, 1), 6);
        for (int day : new int[] {2, 400, 100000, 100001, Integer.MAX_VALUE}) {
            Check.due("day " + day + ", to come", x.grade(0, day), 6);
        }
        for (int day : new int[] {-1, -2, Integer.MIN_VALUE}) {
            Check.due("day " + day, x.grade(0, day), -1);
        }
        x.untell(1);
        for (int day : new int[] {1, 2, Integer.MAX_VALUE}) {
            Check.due("day " + day + ", untold", x.grade(0, day), 5);
        }
    }

    private static void gradeOfOneWheel() {
        Check.says("the GRADE of a WHEEL");
        CheeseCellar x = cellar(0, 0);
        x.mark(0, 0, 5);
        x.mark(0, 1, 9);
        x.mark(1, 1, 20);
        Check.due("grade of the first", x.grade(0, 0), 5);
        Check.due("grade of the second", x.grade(1, 0), 9);
        x.untell(1);
        Check.due("grade of the first", x.grade(0, 0), 5);
        Check.due("grade of the second", x.grade(1, 0), 20);
    }

    private static void gradeOfSold() {
        Check.says("NONE if .. there is none such.");
        // a sold wheel is still a wheel: suits() alone calls it none
        CheeseCellar x = cellar(0);
        x.mark(0, 0, 6);
        x.sell(0);
        Check.due("grade", x.grade(0, 0), 6);
        Check.due("mark", x.mark(1, 0, 3), 1);
        Check.due("grade", x.grade(0, 0), 3);
        Check.due("untell", x.untell(1), true);
    }

    private static void both(CheeseCellar x, int a, int b, int want) {
        Check.due("beside(" + a + ", " + b + ")", x.beside(a, b), want);
        Check.due("beside(" + b + ", " + a + ")", x.beside(b, a), want);
    }

    private static void besideAtADaysEnd() {
        Check.says("share a day d at whose end (as THE DAY went on from d) both lay there");
        CheeseCellar x = cellar(3, 3);
        both(x, 0, 1, 0);
        x.days(0);
        both(x, 0, 1, 0);
        x.days(1);
        both(x, 0, 1, 1);
        x.days(400);
        both(x, 0, 1, 1);
        CheeseCellar y = cellar(3);
        y.days(5);
        Check.small(y, 0, 3);
        both(y, 0, 1, 0);
        y.days(1);
        both(y, 0, 1, 1);
    }

    private static void besideLeftOnTheDay() {
        Check.says("from a DAY on up to a DAY (that on which it left it");
        CheeseCellar x = cellar(3, 3);
        x.move(1, 4);
        x.days(9);
        both(x, 0, 1, 0);
        // there and back within a day is no night elsewhere
        CheeseCellar y = cellar(3, 3);
        y.move(1, 4);
        y.move(1, 3);
        both(y, 0, 1, 0);
        y.days(1);
        both(y, 0, 1, 1);
        // one night, then apart for ever
        CheeseCellar z = cellar(3, 3);
        z.days(1);
        z.move(1, 4);
        both(z, 0, 1, 1);
        z.days(9);
        both(z, 0, 1, 1);
    }

    private static void besideCameAsOtherLeft() {
        Check.says("at whose end .. both lay there");
        CheeseCellar x = cellar(3, 4);
        x.days(2);
        x.move(0, 5);
        x.move(1, 3);
        x.days(2);
        both(x, 0, 1, 0);
        // came in the morning, the other left in the evening of the same day
        CheeseCellar y = cellar(3, 4);
        y.days(2);
        y.move(1, 3);
        y.move(0, 5);
        y.days(2);
        both(y, 0, 1, 0);
        // a new wheel on the place of one that went a day later
        CheeseCellar z = cellar(3);
        z.days(2);
        Check.small(z, 0, 3);
        z.days(1);
        z.move(0, 5);
        z.days(1);
        both(z, 0, 1, 1);
    }

    private static void besideOnOneShelf() {
        Check.says("if STAYS of theirs on one SHELF share a day");
        CheeseCellar x = cellar(0, 1, 6, 22, 23, 23);
        x.days(5);
        for (int a = 0; a < 6; a++) {
            for (int b = 0; b < a; b++) {
                both(x, a, b, a == 5 && b == 4 ? 1 : 0);
            }
        }
        // both were on both shelves, never at once
        CheeseCellar y = cellar(3, 4);
        y.days(1);
        y.move(0, 4);
        y.move(1, 3);
        y.days(1);
        both(y, 0, 1, 0);
    }

    private static void besideByAnyStays() {
        Check.says("STAYS: a WHEEL on a SHELF from a DAY on up to a DAY (..; none yet)");
        // the first stay of one and the last of the other
        CheeseCellar x = cellar(0, 1);
        for (int shelf = 2; shelf <= 9; shelf++) {
            x.days(1);
            x.move(0, shelf);
        }
        x.days(1);
        both(x, 0, 1, 0);
        x.move(0, 1);
        x.days(1);
        both(x, 0, 1, 1);
        for (int shelf = 2; shelf <= 9; shelf++) {
            x.move(0, shelf);
            x.days(1);
        }
        both(x, 0, 1, 1);
    }

    private static void besideAndSales() {
        Check.says("up to a DAY (that on which it left it");
        CheeseCellar x = cellar(3, 3, 3);
        x.sell(0);
        x.days(3);
        both(x, 0, 1, 0);
        both(x, 1, 2, 1);
        x.sell(1);
        x.days(3);
        Check.small(x, 0, 3);
        x.days(1);
        both(x, 1, 3, 0);
        both(x, 2, 3, 1);
        both(x, 1, 2, 1);
    }

    private static void besideByCarry() {
        Check.says("a WHEEL on a SHELF from a DAY on");
        CheeseCellar x = cellar(0, 0, 1);
        x.days(1);
        x.band(0, 0, 5, 5);
        x.air(1, 5);
        x.plan();
        Check.due("carry()", x.carry(), 2);
        both(x, 0, 2, 0);
        both(x, 0, 1, 1);
        x.days(1);
        both(x, 0, 2, 1);
        both(x, 1, 2, 1);
        // whom the plan moved has left its shelf
        Check.small(x, 1, 0);
        x.days(1);
        both(x, 0, 3, 0);
    }

    private static void besideEdges() {
        Check.says("1 if two different WHEELS lay BESIDE one another, else 0; NONE if one is none, or both are one.");
        CheeseCellar x = cellar(3, 3);
        x.days(1);
        both(x, 0, 0, -1);
        both(x, 1, 1, -1);
        for (int wheel : Check.outside(1)) {
            both(x, 0, wheel, -1);
            both(x, 1, wheel, -1);
            both(x, wheel, wheel, -1);
        }
        for (int wheel : new int[] {32, 39, 40, 63, 64, 65}) {
            both(x, 0, wheel, -1);
        }
        x.sell(0);
        both(x, 0, 1, 1);
        both(x, 0, 0, -1);
    }

    /** So many stays by one wheel's moves; the wheel is then on shelf 0 or 1. */
    private static void goStays(CheeseCellar x, int stays) {
        x.milk(1, 100);
        Check.small(x, 0, 0);
        Check.small(x, 0, 5);
        for (int i = 2; i < stays; i++) {
            Check.due("move " + i, x.move(0, (i - 1) % 2), true);
        }
        Check.due("stays", x.about(5), stays);
        x.plan();
    }

    private static void twoHundredStays() {
        Check.says("200 STAYS are kept");
        for (int stays : new int[] {198, 199}) {
            CheeseCellar x = new CheeseCellar();
            goStays(x, stays);
            Check.due("a wheel with " + stays, Check.small(x, 0, 9), 2);
            Check.due("stays", x.about(5), stays + 1);
            CheeseCellar y = new CheeseCellar();
            goStays(y, stays);
            Check.due("a move with " + stays, y.move(1, 9), true);
            Check.due("stays", y.about(5), stays + 1);
        }
        // the 200th counts as the others
        CheeseCellar x = new CheeseCellar();
        goStays(x, 199);
        x.move(1, x.of(0, 1));
        both(x, 0, 1, 0);
        x.days(1);
        both(x, 0, 1, 1);
    }

    private static void staysFull() {
        Check.says("then a WHEEL can't be made, or be moved");
        Twin full = new Twin(x -> goStays(x, 200));
        full.refuses("a wheel", x -> Check.small(x, 0, 9), -1);
        full.refuses("a move", x -> x.move(1, 9));
        full.refuses("a move to and fro", x -> x.move(0, 9));
        CheeseCellar x = new CheeseCellar();
        goStays(x, 200);
        Check.due("a sale needs none", x.sell(0), true);
        Check.due("days go on", x.days(3), 3);
        Check.due("still no wheel", Check.small(x, 0, 9), -1);
        Check.due("still no move", x.move(1, 9), false);
        Check.due("milk goes on", x.milk(1, 1), 1);
    }

    private static void soldStayIsKept() {
        Check.says("200 STAYS are kept");
        CheeseCellar x = cellar(0, 0);
        x.sell(0);
        Check.due("stays", x.about(5), 2);
        x.move(1, 5);
        x.sell(1);
        Check.due("stays", x.about(5), 3);
    }

    private static void reachedMadeFrom() {
        Check.says("REACHED by a MILK: the WHEELS made from it");
        CheeseCellar x = new CheeseCellar();
        for (int i = 0; i < 4; i++) {
            x.milk(1, 100);
        }
        x.wheel(0, 0, 0, 1, -1, 0, -1, 0);
        x.wheel(0, 1, 1, 1, 0, 1, -1, 0);
        x.wheel(0, 2, 2, 1, 1, 1, 0, 1);
        Check.due("as a, b and c", x.reached(0), 0b111);
        Check.due("as a and b", x.reached(1), 0b110);
        Check.due("as a", x.reached(2), 0b100);
        Check.due("none made", x.reached(3), 0);
        x.sell(2);
        x.days(1);
        Check.due("sold ones too", x.reached(2), 0b100);
    }

    private static void reachedOneStep() {
        Check.says("and all that lay BESIDE one of these");
        CheeseCellar x = new CheeseCellar();
        x.milk(1, 100);
        x.milk(2, 100);
        x.wheel(0, 0, 0, 1, -1, 0, -1, 0);
        x.wheel(0, 0, 1, 1, -1, 0, -1, 0);
        x.wheel(0, 1, 1, 1, -1, 0, -1, 0);
        Check.due("before a day's end", x.reached(0), 0b001);
        x.days(1);
        Check.due("the one beside", x.reached(0), 0b011);
        x.move(1, 1);
        x.days(1);
        Check.due("not the one beside the one beside", x.reached(0), 0b011);
        Check.due("from the other milk", x.reached(1), 0b111);
    }

    private static void reachedOnWhateverDay() {
        Check.says("on whatever day");
        CheeseCellar x = new CheeseCellar();
        x.milk(1, 100);
        x.milk(2, 100);
        x.wheel(0, 0, 0, 1, -1, 0, -1, 0);
        for (int i = 1; i <= 5; i++) {
            x.wheel(0, i, 1, 1, -1, 0, -1, 0);
        }
        // a night beside each, one after the other; then sold
        for (int i = 1; i <= 5; i++) {
            x.move(0, i);
            x.days(1);
            Check.due("behind night " + i, x.reached(0), (1L << i + 1) - 1);
        }
        x.sell(0);
        x.days(400);
        Check.due("much later", x.reached(0), 0b111111);
        // who comes to the shelf behind the sale is not reached
        x.move(1, 5);
        x.days(1);
        Check.small(x, 0, 5);
        Check.due("made from it", x.reached(0), 0b1111111);
    }

    private static void reachedBits() {
        Check.says("REACHED, as bits");
        CheeseCellar x = new CheeseCellar();
        x.milk(1, 100);
        x.milk(2, 100);
        for (int i = 0; i < 40; i++) {
            x.wheel(0, i % 20, i >= 30 ? 1 : 0, 1, -1, 0, -1, 0);
        }
        Check.due("the first thirty", x.reached(0), (1L << 30) - 1);
        Check.due("the last ten", x.reached(1), (1L << 40) - (1L << 30));
        x.days(1);
        Check.due("all forty", x.reached(0), (1L << 40) - 1);
        Check.due("the last ten and their neighbours", x.reached(1), (1L << 40) - (1L << 30) | (1L << 20) - (1L << 10));
        both(x, 39, 19, 1);
        both(x, 39, 7, 0);
    }

    private static void reachedEdges() {
        Check.says("NONE if there is no such MILK.");
        CheeseCellar x = cellar(0);
        for (int milk : Check.outside(0)) {
            Check.due("reached(" + milk + ")", x.reached(milk), -1L);
        }
        for (int milk : new int[] {29, 30, 31, 32, 33, 64}) {
            Check.due("reached(" + milk + ")", x.reached(milk), -1L);
        }
        CheeseCellar y = new CheeseCellar();
        for (int i = 0; i < 30; i++) {
            y.milk(1, 10);
        }
        y.wheel(0, 0, 29, 1, -1, 0, -1, 0);
        Check.due("the last milk", y.reached(29), 1);
        Check.due("one behind it", y.reached(30), -1L);
    }
}
