/** Part 4 of the document, and promises 14 to 19: one test for each sentence that names an edge. */
public final class Part4EdgesTest {
    public static void main(String[] args) {
        fourBands();
        bandRefused();
        bandAges();
        bandOfAThousandDays();
        bandAirs();
        greatestAge();
        toldLast();
        withoutBand();
        otherKinds();
        suitsEdges();
        suitsToday();
        moveRefused();
        moveNeedNotSuit();
        planOfNobody();
        allSuited();
        tenAndEleven();
        soldAreNotAsked();
        shelfThatSuits();
        roomOfOneShelf();
        tenPlaces();
        thoseThatStay();
        whoGoLeaveFirst();
        ways();
        numbersAsTheyAre();
        leastSum();
        firstShelves();
        firstOfTen();
        longestChain();
        crowds();
        noPlan();
        plannedWithout();
        plannedBounds();
        latestGoodPlan();
        lastWheelPlanned();
        carryAtOnce();
        carrySpoilt();
        carryNotSpoilt();
        carryWithoutPlan();
        carryOfAnEmptyPlan();
        carryAndStays();
        noneBehindCarry();
        Check.finish();
    }

    /** Kind 0 needs air 5 from its first day on; these shelves have it. */
    private static CheeseCellar cellar(int... good) {
        CheeseCellar x = new CheeseCellar();
        x.milk(1, 1000);
        x.band(0, 0, 5, 5);
        for (int shelf : good) {
            x.air(shelf, 5);
        }
        return x;
    }

    private static void wheels(CheeseCellar x, int kind, int... shelves) {
        for (int shelf : shelves) {
            Check.small(x, kind, shelf);
        }
    }

    private static void places(CheeseCellar x, int firstWheel, int... shelves) {
        for (int i = 0; i < shelves.length; i++) {
            Check.due("planned(" + (firstWheel + i) + ")", x.planned(firstWheel + i), shelves[i]);
        }
    }

    private static void fourBands() {
        Check.says("BANDS, 4 at most of each KIND .. A BAND: how many its KIND has");
        CheeseCellar x = new CheeseCellar();
        for (int i = 1; i <= 4; i++) {
            for (int kind = 0; kind <= 2; kind++) {
                Check.due("band " + i + " of kind " + kind, x.band(kind, i, 0, 9), i);
            }
        }
        for (int kind = 0; kind <= 2; kind++) {
            int full = kind;
            new Twin(y -> {
                y.milk(1, 10);
                Check.small(y, full, 0);
                for (int i = 0; i < 4; i++) {
                    y.band(full, 0, 0, 0);
                }
                y.plan();
            }).refuses("a fifth band of kind " + kind, y -> y.band(full, 0, 9, 9), -1);
        }
    }

    private static void bandRefused() {
        Check.says("NONE, doing nothing, if it can't be (least above most, too), or there are 4.");
        for (int kind : Check.outside(2)) {
            Twin.busy().refuses("band of kind " + kind, x -> x.band(kind, 0, 0, 9), -1);
        }
        for (int age : Check.outside(1000)) {
            Twin.busy().refuses("band of age " + age, x -> x.band(0, age, 0, 9), -1);
        }
        for (int air : Check.outside(9)) {
            Twin.busy().refuses("band from " + air, x -> x.band(0, 0, air, 9), -1);
            Twin.busy().refuses("band to " + air, x -> x.band(0, 0, 0, air), -1);
            Twin.busy().refuses("band of " + air, x -> x.band(0, 0, air, air), -1);
        }
        Twin.busy().refuses("band from 1 to 0", x -> x.band(0, 0, 1, 0), -1);
        Twin.busy().refuses("band from 9 to 8", x -> x.band(0, 0, 9, 8), -1);
        Twin.busy().refuses("band from 9 to 0", x -> x.band(0, 0, 9, 0), -1);
    }

    private static void bandAges() {
        Check.says("from an AGE on (0 .. 1000)");
        Check.due("age 0", cellar().band(1, 0, 0, 9), 1);
        Check.due("age 1", cellar().band(1, 1, 0, 9), 1);
        Check.due("age 1000", cellar().band(1, 1000, 0, 9), 1);
        for (int age = 0; age <= 3; age++) {
            CheeseCellar x = cellar();
            x.band(1, age, 9, 9);
            x.days(2);
            Check.small(x, 1, 0);
            for (int day = 0; day <= 4; day++) {
                Check.due("band from " + age + ", age " + day, x.suits(0, 0), day >= age ? 0 : 1);
                Check.due("of(0, 7)", x.of(0, 7), day >= age ? 0 : 1);
                x.days(1);
            }
        }
    }

    private static void bandOfAThousandDays() {
        Check.says("from an AGE on (.. 1000)");
        CheeseCellar x = cellar();
        Check.small(x, 1, 0);
        x.band(1, 1000, 9, 9);
        x.band(1, 999, 0, 0);
        x.days(400);
        x.days(400);
        x.days(199);
        Check.due("age", x.of(0, 5), 999);
        Check.due("age 999", x.suits(0, 0), 1);
        x.days(1);
        Check.due("age 1000", x.suits(0, 0), 0);
        x.days(400);
        Check.due("age 1400", x.suits(0, 0), 0);
    }

    private static void bandAirs() {
        Check.says("AIR must be from a least to a most");
        for (int least = 0; least <= 9; least++) {
            for (int most = least; most <= 9; most++) {
                CheeseCellar x = new CheeseCellar();
                x.milk(1, 10);
                Check.small(x, 2, 23);
                Check.due("band from " + least + " to " + most, x.band(2, 0, least, most), 1);
                for (int air = 0; air <= 9; air++) {
                    x.air(7, air);
                    x.air(23, air);
                    int want = air < least || air > most ? 0 : 1;
                    Check.due(air + " within " + least + " .. " + most, x.suits(0, 7), want);
                    Check.due(air + " within " + least + " .. " + most, x.of(0, 7), want);
                }
            }
        }
    }

    private static void greatestAge() {
        Check.says("the BAND of its KIND with the greatest AGE that is not above its own counts");
        int[][] orders = {{0, 3, 6, 9}, {9, 6, 3, 0}, {3, 9, 0, 6}};
        for (int[] ages : orders) {
            CheeseCellar x = new CheeseCellar();
            x.milk(1, 10);
            Check.small(x, 0, 0);
            for (int shelf = 0; shelf <= 9; shelf++) {
                x.air(shelf, shelf);
            }
            for (int age : ages) {
                x.band(0, age, age, age);
            }
            for (int day = 0; day <= 11; day++) {
                int counts = Math.min(9, day / 3 * 3);
                for (int air = 0; air <= 9; air++) {
                    Check.due("age " + day + ", air " + air, x.suits(0, air), air == counts ? 1 : 0);
                }
                x.days(1);
            }
        }
    }

    private static void toldLast() {
        Check.says("of like ones the one told last");
        CheeseCellar x = new CheeseCellar();
        x.milk(1, 10);
        Check.small(x, 0, 0);
        x.air(1, 1);
        x.air(2, 2);
        for (int air : new int[] {1, 2, 0, 1}) {
            x.band(0, 0, air, air);
            for (int shelf = 0; shelf <= 2; shelf++) {
                Check.due("suits(0, " + shelf + ") behind band of " + air, x.suits(0, shelf), shelf == air ? 1 : 0);
            }
        }
        // a later one of a lesser age does not count
        CheeseCellar y = new CheeseCellar();
        y.milk(1, 10);
        Check.small(y, 0, 0);
        y.band(0, 2, 0, 0);
        y.band(0, 1, 9, 9);
        y.days(2);
        Check.due("suits(0, 0)", y.suits(0, 0), 1);
    }

    private static void withoutBand() {
        Check.says("without one any SHELF SUITS");
        CheeseCellar x = new CheeseCellar();
        x.milk(1, 10);
        Check.small(x, 0, 0);
        x.band(0, 5, 3, 3);
        for (int day = 0; day <= 5; day++) {
            for (int shelf = 0; shelf <= 23; shelf++) {
                x.air(shelf, shelf % 10);
                int want = day < 5 || shelf % 10 == 3 ? 1 : 0;
                Check.due("suits(0, " + shelf + ") at age " + day, x.suits(0, shelf), want);
            }
            x.days(1);
        }
    }

    private static void otherKinds() {
        Check.says("the BAND of its KIND");
        for (int kind = 0; kind <= 2; kind++) {
            for (int other = 0; other <= 2; other++) {
                CheeseCellar x = new CheeseCellar();
                x.milk(1, 10);
                Check.small(x, kind, 0);
                x.band(other, 0, 9, 9);
                Check.due("kind " + kind + ", band of " + other, x.suits(0, 0), kind == other ? 0 : 1);
            }
        }
    }

    private static void suitsEdges() {
        Check.says("1 if a SHELF SUITS a WHEEL (..), else 0; NONE if one is none (a SOLD one is).");
        CheeseCellar x = Twin.busyCellar();
        // wheels 0 .. 3 are there, wheel 2 is sold
        Check.due("suits(3, 0)", x.suits(3, 0), 0);
        Check.due("suits(3, 23)", x.suits(3, 23), 1);
        Check.due("suits(1, 23)", x.suits(1, 23), 1);
        for (int shelf = 0; shelf <= 23; shelf++) {
            Check.due("suits(2, " + shelf + ") of a sold one", x.suits(2, shelf), -1);
        }
        for (int wheel : Check.outside(3)) {
            Check.due("suits(" + wheel + ", 0)", x.suits(wheel, 0), -1);
            Check.due("suits(" + wheel + ", 24)", x.suits(wheel, 24), -1);
        }
        for (int shelf : Check.outside(23)) {
            Check.due("suits(0, " + shelf + ")", x.suits(0, shelf), -1);
        }
        // a full shelf, and its own, may suit
        for (int i = 0; i < 4; i++) {
            Check.small(x, 1, 23);
        }
        Check.due("suits(0, 23), full", x.suits(0, 23), 1);
        Check.due("suits(3, 1), its own", x.suits(3, 1), 1);
    }

    private static void suitsToday() {
        Check.says("(as it is today)");
        CheeseCellar x = new CheeseCellar();
        x.milk(1, 10);
        Check.small(x, 0, 0);
        x.band(0, 3, 9, 9);
        Check.due("age 0", x.suits(0, 0), 1);
        x.days(3);
        Check.due("age 3", x.suits(0, 0), 0);
        x.air(0, 9);
        Check.due("with air", x.suits(0, 0), 1);
    }

    private static void moveRefused() {
        Check.says("A MOVE: true; false, doing nothing, if it can't be (also to its own SHELF).");
        for (int shelf : Check.outside(23)) {
            Twin.busy().refuses("move(0, " + shelf + ")", x -> x.move(0, shelf));
        }
        for (int wheel : Check.outside(3)) {
            Twin.busy().refuses("move(" + wheel + ", 5)", x -> x.move(wheel, 5));
        }
        Twin.busy().refuses("move(0, 0) to its own", x -> x.move(0, 0));
        Twin.busy().refuses("move(3, 1) to its own", x -> x.move(3, 1));
        Twin.busy().refuses("move(2, 5) of a sold one", x -> x.move(2, 5));
        Twin.busy().refuses("move(2, -1) of a sold one", x -> x.move(2, -1));
        new Twin(x -> {
            x.milk(1, 10);
            wheels(x, 0, 0, 1, 1, 1, 1);
            x.plan();
        }).refuses("move(0, 1) to a full one", x -> x.move(0, 1));
        new Twin(x -> {
            x.milk(1, 10);
            wheels(x, 0, 1, 1, 1, 1);
            x.plan();
        }).refuses("move(0, 1) to its own, full", x -> x.move(0, 1));
    }

    private static void moveNeedNotSuit() {
        Check.says("A MOVE takes a WHEEL to another SHELF with room.");
        CheeseCellar x = cellar(3);
        wheels(x, 0, 3);
        Check.due("to one that does not suit", x.move(0, 0), true);
        Check.due("its shelf", x.of(0, 1), 0);
        Check.due("from first to last", x.move(0, 23), true);
        Check.due("from last to first", x.move(0, 0), true);
        Check.due("stays", x.about(5), 4);
    }

    private static void planOfNobody() {
        Check.says("0 if all are suited");
        CheeseCellar x = new CheeseCellar();
        Check.due("plan() of an empty cellar", x.plan(), 0);
        x.band(0, 0, 9, 9);
        Check.due("plan() with a band", x.plan(), 0);
        Check.due("carry()", x.carry(), 0);
    }

    private static void allSuited() {
        Check.says("0 if all are suited");
        CheeseCellar x = cellar(3);
        wheels(x, 0, 3, 3, 3, 3);
        wheels(x, 1, 0, 0, 0, 0, 1, 1, 1, 1);
        Check.due("plan()", x.plan(), 0);
        places(x, 0, -1, -1, -1, -1, -1);
    }

    private static void tenAndEleven() {
        Check.says("-3 if there would be more than 10");
        CheeseCellar x = cellar(18, 19, 20);
        wheels(x, 0, 0, 1, 2, 3, 4, 5, 0, 1, 2);
        Check.due("plan() for nine", x.plan() > 0, true);
        wheels(x, 0, 3);
        Check.due("plan() for ten", x.plan() > 0, true);
        Check.due("planned(9)", x.planned(9) >= 18, true);
        wheels(x, 1, 4, 5);
        Check.due("plan() for ten, two more are suited", x.plan() > 0, true);
        wheels(x, 0, 18);
        Check.due("plan() for ten, one lies well", x.plan() > 0, true);
        Check.due("its place", x.planned(12), -1);
        wheels(x, 0, 0);
        Check.due("plan() for eleven", x.plan(), -3);
        wheels(x, 0, 0);
        Check.due("plan() for twelve", x.plan(), -3);
        // more than ten goes before no plan
        x.air(18, 0);
        x.air(19, 0);
        x.air(20, 0);
        Check.due("plan() for thirteen that can't be", x.plan(), -3);
        for (int wheel = 0; wheel < 3; wheel++) {
            x.sell(wheel);
        }
        Check.due("plan() for ten that can't be", x.plan(), -2);
        CheeseCellar y = cellar(23);
        for (int i = 0; i < 40; i++) {
            Check.small(y, 0, i % 20);
        }
        Check.due("plan() for forty", y.plan(), -3);
    }

    private static void soldAreNotAsked() {
        Check.says("A PLAN is asked for the WHEELS whom their SHELF does not SUIT");
        CheeseCellar x = cellar(1);
        wheels(x, 0, 0, 0, 7);
        x.sell(1);
        Check.due("plan()", x.plan(), 21);
        places(x, 0, 1, -1, 1);
        Check.due("carry()", x.carry(), 2);
        Check.due("the sold one", x.of(1, 1), -1);
        Check.due("stays", x.about(5), 5);
    }

    private static void shelfThatSuits() {
        Check.says("It gives each a SHELF that SUITS it");
        CheeseCellar x = new CheeseCellar();
        x.milk(1, 100);
        x.band(0, 0, 2, 3);
        x.band(1, 0, 4, 4);
        x.band(2, 0, 5, 9);
        int[] airs = {1, 4, 9, 3, 2, 5};
        for (int shelf = 0; shelf <= 5; shelf++) {
            x.air(shelf, airs[shelf]);
        }
        wheels(x, 0, 0);
        wheels(x, 1, 0);
        wheels(x, 2, 0);
        Check.due("plan()", x.plan(), 3 + 1 + 2);
        places(x, 0, 3, 1, 2);
    }

    private static void roomOfOneShelf() {
        Check.says("no SHELF more than its room");
        for (int count = 1; count <= 6; count++) {
            CheeseCellar x = cellar(10);
            for (int i = 0; i < count; i++) {
                Check.small(x, 0, i);
            }
            int[] sums = {24, 47, 69, 90};
            Check.due("plan() for " + count, x.plan(), count <= 4 ? sums[count - 1] : -2);
        }
        for (int shelf = 0; shelf <= 23; shelf++) {
            CheeseCellar x = cellar(shelf);
            int home = (shelf + 6) % 24;
            wheels(x, 0, home, home, home, home);
            Check.due("plan() for four to " + shelf, x.plan(), 80 * Math.abs(shelf / 6 - home / 6));
            wheels(x, 0, (home + 6) % 24);
            Check.due("plan() for five to " + shelf, x.plan(), -2);
        }
    }

    private static void tenPlaces() {
        Check.says("no SHELF more than its room together with those that stay");
        CheeseCellar x = cellar(0, 6, 12);
        wheels(x, 0, 12, 12);
        wheels(x, 0, 1, 2, 3, 4, 5, 7, 8, 9, 10, 11);
        Check.due("ten for ten places", x.plan() > 0, true);
        int[] on = new int[24];
        for (int wheel = 2; wheel < 12; wheel++) {
            on[Math.max(0, x.planned(wheel))]++;
        }
        Check.due("to shelf 0", on[0], 4);
        Check.due("to shelf 6", on[6], 4);
        Check.due("to shelf 12", on[12], 2);
        wheels(x, 1, 12);
        Check.due("ten for nine places", x.plan(), -2);
        x.sell(12);
        Check.due("ten for ten places", x.carry(), -1);
        Check.due("ten for ten places", x.plan() > 0, true);
        Check.due("carry()", x.carry(), 10);
        Check.due("shelf 12 is full", Check.small(x, 1, 12), -1);
    }

    private static void thoseThatStay() {
        Check.says("together with those that stay");
        for (int staying = 0; staying <= 4; staying++) {
            CheeseCellar x = cellar(7);
            for (int i = 0; i < staying; i++) {
                Check.small(x, i % 2, 7);
            }
            wheels(x, 0, 1);
            Check.due("plan() with " + staying + " on the shelf", x.plan(), staying < 4 ? 20 : -2);
            Check.due("planned()", x.planned(staying), staying < 4 ? 7 : -1);
        }
    }

    private static void whoGoLeaveFirst() {
        Check.says("(who go leave theirs first)");
        CheeseCellar x = new CheeseCellar();
        x.milk(1, 100);
        for (int shelf = 0; shelf <= 23; shelf++) {
            x.air(shelf, 9);
        }
        x.band(0, 0, 1, 1);
        x.band(1, 0, 2, 2);
        x.air(0, 2);
        x.air(23, 1);
        wheels(x, 0, 0, 0, 0, 0);
        wheels(x, 1, 23, 23, 23, 23);
        Check.due("plan() of two full shelves", x.plan(), 8 * 65);
        places(x, 0, 23, 23, 23, 23, 0, 0, 0, 0);
        Check.due("carry()", x.carry(), 8);
        for (int wheel = 0; wheel < 8; wheel++) {
            Check.due("shelf of " + wheel, x.of(wheel, 1), wheel < 4 ? 23 : 0);
        }
        Check.due("shelf 0 is full", Check.small(x, 2, 0), -1);
        Check.due("shelf 23 is full", Check.small(x, 2, 23), -1);
        Check.due("stays", x.about(5), 16);
        // one more that needs shelf 23 finds no room there
        wheels(x, 0, 5);
        Check.due("plan()", x.plan(), -2);
    }

    private static void ways() {
        Check.says("WAY of one: 20 for each AISLE between, 1 for each number between");
        for (int home = 0; home <= 23; home++) {
            for (int goal = 0; goal <= 23; goal++) {
                CheeseCellar x = cellar(goal);
                wheels(x, 0, home);
                int way = 20 * Math.abs(home / 6 - goal / 6) + Math.abs(home % 6 - goal % 6);
                Check.due("from " + home + " to " + goal, x.plan(), way);
            }
        }
    }

    private static void numbersAsTheyAre() {
        Check.says("(numbers as they are, also of different AISLES)");
        int[][] ways = {{5, 6, 25}, {6, 5, 25}, {0, 6, 20}, {0, 23, 65}, {23, 0, 65}, {11, 12, 25}, {5, 0, 5}, {18, 5, 65}};
        for (int[] way : ways) {
            CheeseCellar x = cellar(way[1]);
            wheels(x, 0, way[0]);
            Check.due("from " + way[0] + " to " + way[1], x.plan(), way[2]);
        }
        // so the next shelf by number, in another aisle, is not the nearest
        CheeseCellar x = cellar(6, 0);
        wheels(x, 0, 5);
        Check.due("plan()", x.plan(), 5);
        places(x, 0, 0);
    }

    private static void leastSum() {
        Check.says("BEST is the PLAN with the least sum of WAYS");
        // the first wheel has to take the farther shelf, for the sum's sake
        CheeseCellar x = cellar(0, 4);
        wheels(x, 0, 0, 0, 0);
        wheels(x, 0, 2, 1);
        Check.due("plan()", x.plan(), 3);
        places(x, 3, 4, 0);
        // an aisle away is farther than the whole of an aisle
        CheeseCellar y = cellar(6, 5);
        wheels(y, 0, 0);
        Check.due("plan()", y.plan(), 5);
        places(y, 0, 5);
        // a lesser sum goes before a lesser first shelf
        CheeseCellar z = cellar(0, 3);
        wheels(z, 0, 2);
        Check.due("plan()", z.plan(), 1);
        places(z, 0, 3);
    }

    private static void firstShelves() {
        Check.says("of like ones the first, by the SHELF of the first WHEEL, then the next");
        CheeseCellar x = cellar(1, 3);
        wheels(x, 0, 2);
        Check.due("plan()", x.plan(), 1);
        places(x, 0, 1);
        // one place on 1, one on 3, both as near for both: the first wheel has the lower
        CheeseCellar y = cellar(1, 3);
        wheels(y, 0, 1, 1, 1, 3, 3, 3);
        wheels(y, 0, 2, 2);
        Check.due("plan()", y.plan(), 2);
        places(y, 6, 1, 3);
        // wheels beyond both shelves: both orders have the same sum, so the first takes the first shelf
        CheeseCellar w = cellar(0, 1);
        wheels(w, 0, 0, 0, 0, 1, 1, 1);
        wheels(w, 0, 3, 5);
        Check.due("plan()", w.plan(), 7);
        places(w, 6, 0, 1);
        CheeseCellar v = cellar(0, 1);
        wheels(v, 0, 0, 0, 0, 1, 1, 1);
        wheels(v, 0, 5, 3);
        Check.due("plan()", v.plan(), 7);
        places(v, 6, 0, 1);
    }

    private static void firstOfTen() {
        Check.says("then the next");
        // all numbers of home are above those of the goals, so each way to fill 8, 7 and half of 6 has the same sum
        CheeseCellar x = cellar(6, 7, 8);
        wheels(x, 0, 4, 4, 4, 4, 5, 5, 5, 5, 3, 3);
        int homes = 4 * 4 + 4 * 5 + 2 * 3;
        int goals = 4 * 2 + 4 * 1 + 2 * 0;
        Check.due("plan()", x.plan(), 10 * 20 + homes - goals);
        places(x, 0, 6, 6, 7, 7, 7, 7, 8, 8, 8, 8);
        // two places less on the first shelf: ten wheels for ten places
        wheels(x, 0, 6, 6);
        Check.due("plan()", x.plan(), 10 * 20 + homes - goals);
        places(x, 0, 6, 6, 7, 7, 7, 7, 8, 8, 8, 8);
    }

    /** The shelves that have air 0 .. 8, each farther from the shelves 0, 1, 2 than the one before. */
    private static final int[] CHAIN = {3, 4, 5, 8, 9, 10, 11, 14, 15};

    /**
     * Nine wheels who lie badly on 0, 1, 2: the first may lie under air 7 or 8, the next under 6 or 7 .. the ninth
     * under 0 alone. Each of the shelves for 0 .. 7 has one place, so that the ninth pushes all the others on.
     */
    private static CheeseCellar chain() {
        CheeseCellar x = new CheeseCellar();
        x.milk(1, 1000);
        for (int shelf = 0; shelf <= 23; shelf++) {
            x.air(shelf, 9);
        }
        for (int air = 0; air <= 8; air++) {
            x.air(CHAIN[air], air);
        }
        for (int i = 0; i < 9; i++) {
            x.days(i == 3 || i == 6 ? 10 : 0);
            x.band(i % 3, 20 - i / 3 * 10, Math.max(0, 7 - i), 8 - i);
            Check.small(x, i % 3, i / 3);
            for (int j = 0; j < 3 && i < 8; j++) {
                Check.small(x, i % 3, CHAIN[7 - i]);
            }
        }
        return x;
    }

    /** The movers of the chain, the first under this air, each next one under one less. */
    private static void movers(CheeseCellar x, int count, int airOfFirst) {
        int sum = 0;
        for (int i = 0; i < count; i++) {
            int goal = CHAIN[airOfFirst - i];
            sum += 20 * (goal / 6) + goal % 6 - i / 3;
        }
        Check.due("plan() for " + count, x.plan(), sum);
        for (int i = 0; i < count; i++) {
            Check.due("home of mover " + i, x.of(4 * i, 1), i / 3);
            Check.due("goal of mover " + i, x.planned(4 * i), CHAIN[airOfFirst - i]);
        }
        Check.due("carry()", x.carry(), count);
    }

    private static void longestChain() {
        Check.says("It gives each a SHELF that SUITS it, no SHELF more than its room together with those that stay");
        movers(chain(), 9, 8);
        // without the ninth, all others have the nearer shelf
        CheeseCellar x = chain();
        x.sell(32);
        movers(x, 8, 7);
        // without a place at the far end there is no plan
        CheeseCellar y = chain();
        y.air(CHAIN[8], 9);
        Check.due("plan()", y.plan(), -2);
    }

    /** A crowd whose bands overlap, so that one more wheel pushes others on; against plans that were tried out. */
    private static void crowds() {
        Check.says("BEST is the PLAN with the least sum of WAYS");
        CheeseCellar x = new CheeseCellar();
        PlainCellar y = new PlainCellar();
        Dice dice = new Dice(5);
        for (int round = 0; round < 150; round++) {
            x = new CheeseCellar();
            y = new PlainCellar();
            x.milk(1, 1000);
            y.milk(1, 1000);
            for (int shelf = 0; shelf <= 23; shelf++) {
                x.air(shelf, shelf % 10);
                y.air(shelf, shelf % 10);
            }
            for (int i = 0; i < 10; i++) {
                int shelf = dice.upTo(11);
                Check.due("wheel", Check.small(x, i % 3, shelf), y.wheel(i % 3, shelf, 0, 1, -1, 0, -1, 0));
            }
            for (int i = 0; i < 30; i++) {
                int kind = dice.upTo(2);
                int shelf = dice.upTo(23);
                Check.due("wheel", Check.small(x, kind, shelf), y.wheel(kind, shelf, 0, 1, -1, 0, -1, 0));
            }
            for (int kind = 0; kind <= 2; kind++) {
                int least = dice.upTo(3) + kind;
                int most = Math.min(9, least + 3 + dice.upTo(4));
                Check.due("band", x.band(kind, 0, least, most), y.band(kind, 0, least, most));
            }
            for (int wheel = 39; wheel >= 0 && x.plan() == -3; wheel--) {
                if (x.of(wheel, 7) == 0) {
                    x.sell(wheel);
                    y.sell(wheel);
                }
            }
            Check.due("plan() of round " + round, x.plan(), y.plan());
            for (int wheel = 0; wheel < 40; wheel++) {
                Check.due("planned(" + wheel + ") of round " + round, x.planned(wheel), y.planned(wheel));
            }
        }
    }

    private static void noPlan() {
        Check.says("-2 if there is no PLAN");
        CheeseCellar x = cellar();
        wheels(x, 0, 0);
        Check.due("no shelf suits", x.plan(), -2);
        x.air(23, 4);
        Check.due("one below the least", x.plan(), -2);
        x.air(23, 6);
        Check.due("one above the most", x.plan(), -2);
        x.air(23, 5);
        Check.due("one that suits", x.plan(), 65);
        // one of two can't be placed: there is no plan for the other either
        CheeseCellar y = cellar(1);
        y.band(1, 0, 9, 9);
        wheels(y, 0, 0);
        wheels(y, 1, 0);
        Check.due("plan()", y.plan(), -2);
        places(y, 0, -1, -1);
        Check.due("carry()", y.carry(), -1);
    }

    private static void plannedWithout() {
        Check.says("NONE without, or if it had it not.");
        CheeseCellar x = cellar(1);
        wheels(x, 0, 0, 1);
        places(x, 0, -1, -1);
        x.plan();
        places(x, 0, 1, -1, -1);
        wheels(x, 0, 0);
        Check.due("a wheel behind the plan", x.planned(2), -1);
    }

    private static void plannedBounds() {
        Check.says("The SHELF of a WHEEL by the latest plan() that was 0 or more; NONE");
        CheeseCellar x = cellar(1);
        wheels(x, 0, 0);
        x.plan();
        for (int wheel : Check.outside(0)) {
            Check.due("planned(" + wheel + ")", x.planned(wheel), -1);
        }
        for (int wheel : Check.outside(39)) {
            Check.due("planned(" + wheel + ")", x.planned(wheel), -1);
        }
        Check.due("planned(39)", x.planned(39), -1);
    }

    private static void latestGoodPlan() {
        Check.says("by the latest plan() that was 0 or more");
        CheeseCellar x = cellar(1);
        wheels(x, 0, 0);
        Check.due("plan()", x.plan(), 1);
        x.air(1, 0);
        Check.due("plan() without a shelf", x.plan(), -2);
        places(x, 0, 1);
        wheels(x, 0, 2, 2, 2, 2, 3, 3, 3, 3, 4, 4);
        Check.due("plan() for eleven", x.plan(), -3);
        places(x, 0, 1, -1);
        x.days(1);
        x.sell(0);
        places(x, 0, 1, -1);
        Check.due("carry()", x.carry(), -1);
        places(x, 0, 1, -1);
        x.air(5, 5);
        x.air(6, 5);
        x.air(7, 5);
        Check.due("plan() for ten", x.plan() > 0, true);
        Check.due("the sold one had none", x.planned(0), -1);
        for (int shelf = 2; shelf <= 4; shelf++) {
            x.air(shelf, 5);
        }
        Check.due("plan() with all suited", x.plan(), 0);
        Check.due("planned(1)", x.planned(1), -1);
    }

    private static void lastWheelPlanned() {
        Check.says("The SHELF of a WHEEL by the latest plan()");
        CheeseCellar x = cellar(22, 23);
        for (int i = 0; i < 30; i++) {
            Check.small(x, 1, i % 10);
        }
        for (int i = 0; i < 10; i++) {
            x.move(i, 10 + i / 4);
        }
        int[] homes = {0, 1, 2, 3, 4, 5, 6};
        wheels(x, 1, 13, 13, 13);
        wheels(x, 0, homes);
        Check.due("wheels", x.about(2), 40);
        Check.due("plan() for the last seven", x.plan() > 0, true);
        for (int wheel = 33; wheel < 40; wheel++) {
            Check.due("planned(" + wheel + ")", x.planned(wheel) >= 22, true);
        }
        Check.due("planned(32)", x.planned(32), -1);
        int last = x.planned(39);
        Check.due("carry()", x.carry(), 7);
        Check.due("shelf of the last", x.of(39, 1), last);
    }

    private static void carryAtOnce() {
        Check.says("All WHEELS of the PLAN told last are moved so at once ..: how many");
        CheeseCellar x = cellar(1, 2);
        wheels(x, 0, 0, 0, 0, 0, 3, 3, 7);
        wheels(x, 1, 4);
        int sum = x.plan();
        int[] goal = new int[8];
        for (int wheel = 0; wheel < 8; wheel++) {
            goal[wheel] = x.planned(wheel);
        }
        Check.due("plan()", sum > 0, true);
        Check.due("carry()", x.carry(), 7);
        for (int wheel = 0; wheel < 7; wheel++) {
            Check.due("shelf of " + wheel, x.of(wheel, 1), goal[wheel]);
            Check.due("suited", x.of(wheel, 7), 1);
        }
        Check.due("one that stays", x.of(7, 1), 4);
        Check.due("stays", x.about(5), 15);
        Check.due("plan() behind it", x.plan(), 0);
    }

    /** A plan that takes wheel 0 to shelf 1; wheel 1 lies well on shelf 2, and wheel 2 anywhere. */
    private static void goPlanned(CheeseCellar x) {
        x.milk(1, 1000);
        x.band(0, 0, 5, 5);
        x.air(1, 5);
        x.air(2, 5);
        wheels(x, 0, 0, 2);
        wheels(x, 1, 3);
        Check.due("plan()", x.plan(), 1);
    }

    private static void spoils(String name, Twin.Call call, long answer) {
        CheeseCellar x = new CheeseCellar();
        goPlanned(x);
        Check.due(name, call.on(x), answer);
        int stays = x.about(5);
        String before = Twin.look(x);
        Check.due("carry() behind " + name, x.carry(), -1);
        Check.due("carry() did nothing behind " + name, Twin.look(x).equals(before), true);
        Check.due("stays behind " + name, x.about(5), stays);
        Check.due("planned(0) behind " + name, x.planned(0), 1);
        Check.due("carry() again behind " + name, x.carry(), -1);
    }

    private static void carrySpoilt() {
        Check.says("if nothing else was made, moved, sold, told of AIR or BANDS, and no DAY went on since");
        spoils("wheel", x -> Check.small(x, 1, 9), 3);
        spoils("move of another", x -> x.move(2, 4) ? 1 : 0, 1);
        spoils("move of itself", x -> x.move(0, 9) ? 1 : 0, 1);
        spoils("move to its goal", x -> x.move(0, 1) ? 1 : 0, 1);
        spoils("move to and fro", x -> x.move(2, 4) && x.move(2, 3) ? 1 : 0, 1);
        spoils("sale of another", x -> x.sell(2) ? 1 : 0, 1);
        spoils("sale of itself", x -> x.sell(0) ? 1 : 0, 1);
        spoils("air of another shelf", x -> x.air(23, 7) ? 1 : 0, 1);
        spoils("air as it was", x -> x.air(1, 5) ? 1 : 0, 1);
        spoils("band of another kind", x -> x.band(2, 1000, 0, 9), 1);
        spoils("days(1)", x -> x.days(1), 1);
        spoils("days(400)", x -> x.days(400), 400);
    }

    private static void keeps(String name, Twin.Call call, long answer) {
        CheeseCellar x = new CheeseCellar();
        goPlanned(x);
        Check.due(name, call.on(x), answer);
        Check.due("carry() behind " + name, x.carry(), 1);
        Check.due("shelf behind " + name, x.of(0, 1), 1);
    }

    private static void carryNotSpoilt() {
        Check.says("if nothing else was made, moved, sold, told of AIR or BANDS, and no DAY went on since: how many");
        keeps("days(0)", x -> x.days(0), 0);
        keeps("days(401)", x -> x.days(401), -1);
        keeps("damp", x -> x.damp(0, 99) ? 1 : 0, 1);
        keeps("milk", x -> x.milk(1, 1), 1);
        keeps("mark", x -> x.mark(0, 0, 1), 0);
        keeps("mark and untell", x -> x.mark(0, 0, 1) == 0 && x.untell(0) ? 1 : 0, 1);
        keeps("orders", x -> Check.give(x, "when 1 do turn;"), 1);
        keeps("faulty orders", x -> Check.give(x, "when"), -1);
        keeps("plan() again", x -> x.plan(), 1);
        keeps("questions", x -> Twin.look(x).length() > 0 ? 1 : 0, 1);
        keeps("air that can't be", x -> x.air(1, 10) ? 1 : 0, 0);
        keeps("air of no shelf", x -> x.air(24, 0) ? 1 : 0, 0);
        keeps("wheel that can't be", x -> x.wheel(0, 0, 0, 0, -1, 0, -1, 0), -1);
        keeps("move that can't be", x -> x.move(0, 0) ? 1 : 0, 0);
        keeps("sale of nothing", x -> x.sell(3) ? 1 : 0, 0);
        keeps("band that can't be", x -> x.band(0, 0, 6, 5), -1);
    }

    private static void carryWithoutPlan() {
        Check.says("NONE, doing nothing: .. there is no PLAN");
        new Twin(x -> {
            x.milk(1, 10);
            x.band(0, 0, 5, 5);
            wheels(x, 0, 0, 1);
        }).refuses("carry() before any plan", x -> x.carry(), -1);
        new Twin(x -> {
            x.milk(1, 10);
            x.band(0, 0, 5, 5);
            wheels(x, 0, 0, 1);
            x.plan();
        }).refuses("carry() behind a plan() of -2", x -> x.carry(), -1);
        new Twin(x -> {
            x.milk(1, 20);
            x.band(0, 0, 5, 5);
            x.air(23, 5);
            wheels(x, 0, 0, 1, 2, 3, 4, 5, 6, 7, 8, 9, 10);
            Check.due("plan()", x.plan(), -3);
        }).refuses("carry() behind a plan() of -3", x -> x.carry(), -1);
    }

    private static void carryOfAnEmptyPlan() {
        Check.says("how many");
        CheeseCellar x = cellar(1);
        wheels(x, 0, 1);
        Check.due("plan()", x.plan(), 0);
        Check.due("carry()", x.carry(), 0);
        Check.due("carry() again", x.carry(), -1);
        Check.due("stays", x.about(5), 1);
        // an empty plan may be spoilt too
        Check.due("plan()", x.plan(), 0);
        x.days(1);
        Check.due("carry()", x.carry(), -1);
    }

    /** Two wheels to be carried, when so many of the 200 stays are taken. */
    private static void goWithStays(CheeseCellar x, int taken) {
        x.milk(1, 100);
        x.band(0, 0, 5, 5);
        x.air(1, 5);
        wheels(x, 1, 5);
        wheels(x, 0, 0, 0);
        for (int i = 3; i < taken; i++) {
            x.move(0, 3 + i % 2);
        }
        Check.due("stays", x.about(5), taken);
        Check.due("plan()", x.plan(), 2);
    }

    private static void carryAndStays() {
        Check.says("NONE, doing nothing: .. or not so many STAYS left");
        for (int taken : new int[] {197, 198}) {
            CheeseCellar x = new CheeseCellar();
            goWithStays(x, taken);
            Check.due("carry() with " + (200 - taken) + " left", x.carry(), 2);
            Check.due("stays", x.about(5), taken + 2);
            Check.due("shelf", x.of(1, 1), 1);
        }
        for (int taken : new int[] {199, 200}) {
            new Twin(x -> goWithStays(x, taken)).refuses("carry() with " + (200 - taken) + " left", x -> x.carry(), -1);
        }
        // a plan for nobody needs none
        CheeseCellar x = new CheeseCellar();
        goWithStays(x, 200);
        x.sell(1);
        x.sell(2);
        Check.due("plan()", x.plan(), 0);
        Check.due("carry() with none left", x.carry(), 0);
        Check.due("stays", x.about(5), 200);
    }

    private static void noneBehindCarry() {
        Check.says("(Behind it there is none.)");
        CheeseCellar x = cellar(1, 2);
        wheels(x, 0, 0, 7);
        Check.due("plan()", x.plan() > 0, true);
        Check.due("carry()", x.carry(), 2);
        places(x, 0, -1, -1);
        Check.due("carry() again", x.carry(), -1);
        x.band(0, 0, 0, 0);
        Check.due("plan() behind it", x.plan() > 0, true);
        Check.due("carry() of the next plan", x.carry(), 2);
        places(x, 0, -1, -1);
    }
}
