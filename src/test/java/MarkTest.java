/** Promises 20, 21, 22: mark, untell, grade. */
public final class MarkTest {
    public static void main(String[] args) {
        wrongMarks();
        limit();
        middle();
        asKnown();
        untold();
        soldWheel();
        Check.finish();
    }

    private static CheeseCellar cellar() {
        CheeseCellar x = new CheeseCellar();
        x.milk(1, 100);
        Check.small(x, 0, 0);
        Check.small(x, 0, 0);
        return x;
    }

    private static void wrongMarks() {
        CheeseCellar x = cellar();
        int[][] wrong = {{-1, 0, 0}, {5, 0, 0}, {0, -1, 0}, {0, 2, 0}, {0, 0, -1}, {0, 0, 21}, {0, 0, Integer.MAX_VALUE}};
        for (int[] w : wrong) {
            Check.due("mark(" + w[0] + ", " + w[1] + ", " + w[2] + ")", x.mark(w[0], w[1], w[2]), -1);
        }
        Check.due("about(4)", x.about(4), 0);
        Check.due("untell(0)", x.untell(0), false);
        Check.due("untell(-1)", x.untell(-1), false);
        Check.due("grade(-1, 0)", x.grade(-1, 0), -1);
        Check.due("grade(2, 0)", x.grade(2, 0), -1);
        Check.due("grade(0, 0)", x.grade(0, 0), -1);
        Check.due("mark(4, 1, 20)", x.mark(4, 1, 20), 0);
        Check.due("mark(0, 1, 0)", x.mark(0, 1, 0), 1);
        Check.due("grade(1, 0)", x.grade(1, 0), 0);
        Check.due("grade(0, 0)", x.grade(0, 0), -1);
    }

    private static void limit() {
        CheeseCellar x = cellar();
        for (int i = 0; i < 100; i++) {
            Check.due("mark " + i, x.mark(i % 5, 0, i % 21), i);
        }
        Check.due("a 101st mark", x.mark(0, 0, 0), -1);
        Check.due("untell(99)", x.untell(99), true);
        Check.due("untell(100)", x.untell(100), false);
        Check.due("a 101st mark", x.mark(0, 0, 0), -1);
        Check.due("about(4)", x.about(4), 100);
        // the last ones are 11, 12, 13, 14 by the graders 0 to 3, and 10 by the last one, whose 15 is untold
        Check.due("grade(0, 0)", x.grade(0, 0), 12);
    }

    private static void middle() {
        int[][] marks = {{7}, {9, 3}, {9, 3, 5}, {1, 4, 3, 2}, {20, 0, 20, 0, 11}, {5, 5, 5, 5}, {0, 0, 20, 20}, {20, 20, 0, 0, 0}, {20}};
        int[] want = {7, 3, 5, 2, 11, 5, 0, 0, 20};
        for (int i = 0; i < marks.length; i++) {
            CheeseCellar x = cellar();
            for (int g = 0; g < marks[i].length; g++) {
                x.mark(4 - g, 0, marks[i][g]);
            }
            Check.due("grade of set " + i, x.grade(0, 0), want[i]);
        }
    }

    private static void asKnown() {
        CheeseCellar x = cellar();
        x.days(3);
        x.mark(0, 0, 4);
        x.days(2);
        x.mark(0, 0, 8);
        x.mark(1, 0, 12);
        x.mark(0, 1, 19);
        int[] want = {-1, -1, -1, 4, 4, 8, 8, 8};
        for (int day = 0; day < want.length; day++) {
            Check.due("grade(0, " + day + ")", x.grade(0, day), want[day]);
        }
        Check.due("grade(0, -1)", x.grade(0, -1), -1);
        Check.due("grade(0, MIN)", x.grade(0, Integer.MIN_VALUE), -1);
        Check.due("grade(0, MAX)", x.grade(0, Integer.MAX_VALUE), 8);
        Check.due("grade(1, 5)", x.grade(1, 5), 19);
        // two marks of one grader on one day: the later one
        x.mark(1, 0, 2);
        Check.due("grade(0, 5)", x.grade(0, 5), 2);
    }

    private static void untold() {
        CheeseCellar x = cellar();
        x.mark(0, 0, 4);
        x.days(2);
        x.mark(0, 0, 8);
        x.days(2);
        Check.due("untell(1)", x.untell(1), true);
        Check.due("untell(1) again", x.untell(1), false);
        x.days(1);
        Check.due("untell(1) later", x.untell(1), false);
        int[] want = {4, 4, 8, 8, 4, 4};
        for (int day = 0; day < want.length; day++) {
            Check.due("grade(0, " + day + ")", x.grade(0, day), want[day]);
        }
        Check.due("untell(0)", x.untell(0), true);
        Check.due("grade(0, 5)", x.grade(0, 5), -1);
        Check.due("grade(0, 4)", x.grade(0, 4), 4);
        // untold on its own day: never known
        int number = x.mark(2, 0, 15);
        Check.due("grade(0, 5)", x.grade(0, 5), 15);
        x.untell(number);
        Check.due("grade(0, 5)", x.grade(0, 5), -1);
        Check.due("grade(0, 6)", x.grade(0, 6), -1);
        Check.due("about(4)", x.about(4), 3);
    }

    private static void soldWheel() {
        CheeseCellar x = cellar();
        x.mark(0, 0, 6);
        x.sell(0);
        Check.due("grade of a sold one", x.grade(0, 0), 6);
        Check.due("a sold one is still a wheel", x.mark(1, 0, 3), 1);
        Check.due("grade of a sold one", x.grade(0, 0), 3);
    }
}
