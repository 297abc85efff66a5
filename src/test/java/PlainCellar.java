import java.util.ArrayList;
import java.util.Arrays;
import java.util.Collections;
import java.util.HashMap;
import java.util.HashSet;
import java.util.List;
import java.util.Map;
import java.util.Set;
import java.util.TreeMap;

/** The document written a second time, slow and by other ways: who lay where is noted night by night, plans are tried out. */
final class PlainCellar {
    private static final class Wheel {
        int kind;
        Integer shelf;
        int ripe;
        int mould;
        int weight;
        int made;
        int side;
        Set<Integer> milks = new HashSet<>();
        List<Integer> nights = new ArrayList<>();
    }

    private final int[] airs = new int[24];
    private final int[] damps = new int[4];
    private final List<int[]> milks = new ArrayList<>();
    private final List<Wheel> wheels = new ArrayList<>();
    private final List<int[]> bands = new ArrayList<>();
    private final List<int[]> marks = new ArrayList<>();
    private final StringBuilder tape = new StringBuilder();
    private PlainText text = new PlainText("");
    private PlainText latest = text;
    private int day = 0;
    private int stays = 0;
    private Map<Integer, Integer> plan = null;
    private boolean fresh = false;

    boolean air(int shelf, int air) {
        if (shelf < 0 || shelf > 23 || air < 0 || air > 9) {
            return false;
        }
        airs[shelf] = air;
        fresh = false;
        return true;
    }

    boolean damp(int aisle, int damp) {
        if (aisle < 0 || aisle > 3 || damp < 0 || damp > 99) {
            return false;
        }
        damps[aisle] = damp;
        return true;
    }

    int milk(int farm, int litres) {
        if (farm < 0 || farm > 99 || litres < 1 || litres > 1000 || milks.size() == 30) {
            return -1;
        }
        milks.add(new int[] {farm, litres, 0});
        return milks.size() - 1;
    }

    private int lyingOn(int shelf) {
        int n = 0;
        for (Wheel w : wheels) {
            n += w.shelf != null && w.shelf == shelf ? 1 : 0;
        }
        return n;
    }

    int wheel(int kind, int shelf, int a, int litresA, int b, int litresB, int c, int litresC) {
        Map<Integer, Integer> uses = new TreeMap<>();
        int given = 1;
        uses.put(a, litresA);
        if (b != -1) {
            uses.put(b, litresB);
            given++;
        }
        if (c != -1) {
            uses.put(c, litresC);
            given++;
        }
        if (kind < 0 || kind > 2 || shelf < 0 || shelf > 23 || lyingOn(shelf) == 4 || uses.size() != given
            || wheels.size() == 40 || stays == 200) {
            return -1;
        }
        for (Map.Entry<Integer, Integer> use : uses.entrySet()) {
            int m = use.getKey();
            if (m < 0 || m >= milks.size() || use.getValue() < 1 || use.getValue() > milks.get(m)[1]) {
                return -1;
            }
        }
        Wheel w = new Wheel();
        for (Map.Entry<Integer, Integer> use : uses.entrySet()) {
            milks.get(use.getKey())[1] -= use.getValue();
            milks.get(use.getKey())[2]++;
            w.weight += use.getValue() * 100;
            w.milks.add(use.getKey());
        }
        w.kind = kind;
        w.shelf = shelf;
        w.made = day;
        for (int i = 0; i < day; i++) {
            w.nights.add(-1);
        }
        wheels.add(w);
        stays++;
        fresh = false;
        return wheels.size() - 1;
    }

    private boolean lies(int wheel) {
        return wheel >= 0 && wheel < wheels.size() && wheels.get(wheel).shelf != null;
    }

    private boolean isWheel(int wheel) {
        return wheel >= 0 && wheel < wheels.size();
    }

    boolean sell(int wheel) {
        if (!lies(wheel)) {
            return false;
        }
        wheels.get(wheel).shelf = null;
        fresh = false;
        return true;
    }

    int feed(int a, int b, int c, int d, int e) {
        if (tape.length() + 20 > 500) {
            return -1;
        }
        for (int word : new int[] {a, b, c, d, e}) {
            tape.append((char) (word >>> 24)).append((char) (word >> 16 & 255));
            tape.append((char) (word >> 8 & 255)).append((char) (word & 255));
        }
        return tape.length();
    }

    int end(int n) {
        if (n < 0 || n > tape.length()) {
            return -1;
        }
        tape.setLength(n);
        return n;
    }

    int orders() {
        latest = new PlainText(tape.toString());
        tape.setLength(0);
        if (latest.fault != 0) {
            return -1;
        }
        text = latest;
        return text.deeds.size();
    }

    int fault(int what) {
        return what == 0 ? latest.fault : what == 1 ? latest.place : -1;
    }

    int days(int n) {
        if (n < 0 || n > 400) {
            return -1;
        }
        int done = 0;
        while (done < n && day < 100000) {
            pass();
            done++;
        }
        return done;
    }

    private void pass() {
        for (Wheel w : wheels) {
            w.nights.add(w.shelf == null ? -1 : w.shelf);
            if (w.shelf == null) {
                continue;
            }
            int air = airs[w.shelf];
            int damp = damps[w.shelf / 6];
            for (int i = 0; i < text.deeds.size(); i++) {
                if (PlainText.worth(text.conditions.get(i), named(w)) != 0) {
                    care(w, text.deeds.get(i));
                }
            }
            int[] more = {3 + air / 3, 2 + damp / 30, 1 + air / 5};
            w.ripe = Math.min(1000000, w.ripe + more[w.kind]);
            w.mould = Math.min(1000000, w.mould + damp / 20 + w.side / 3);
            w.weight = Math.max(0, w.weight - air);
            w.side++;
        }
        day++;
        fresh = false;
    }

    private Map<String, Integer> named(Wheel w) {
        Map<String, Integer> names = new HashMap<>();
        names.put("kind", w.kind);
        names.put("age", day - w.made);
        names.put("ripe", w.ripe);
        names.put("mould", w.mould);
        names.put("weight", w.weight);
        names.put("air", airs[w.shelf]);
        names.put("damp", damps[w.shelf / 6]);
        names.put("side", w.side);
        names.put("shelf", w.shelf);
        names.put("day", day);
        return names;
    }

    private static void care(Wheel w, String deed) {
        if (deed.equals("turn")) {
            w.side = 0;
        } else if (deed.equals("wash")) {
            w.mould = Math.max(0, w.mould - (w.kind == 1 ? 10 : 4));
            w.weight = Math.min(1000000, w.weight + 5);
        } else {
            w.mould = Math.max(0, w.mould - 6);
            w.weight = Math.max(0, w.weight - 2);
        }
    }

    int of(int wheel, int what) {
        if (!isWheel(wheel) || what < 0 || what > 7) {
            return -1;
        }
        Wheel w = wheels.get(wheel);
        int shelf = w.shelf == null ? -1 : w.shelf;
        boolean suited = w.shelf != null && suited(w, shelf);
        return new int[] {w.kind, shelf, w.ripe, w.mould, w.weight, day - w.made, w.side, suited ? 1 : 0}[what];
    }

    int from(int milk, int what) {
        return milk < 0 || milk >= milks.size() || what < 0 || what > 2 ? -1 : milks.get(milk)[what];
    }

    int band(int kind, int age, int least, int most) {
        int have = 0;
        for (int[] b : bands) {
            have += b[0] == kind ? 1 : 0;
        }
        if (kind < 0 || kind > 2 || age < 0 || age > 1000 || least < 0 || most > 9 || least > most || have == 4) {
            return -1;
        }
        bands.add(new int[] {kind, age, least, most});
        fresh = false;
        return have + 1;
    }

    private boolean suited(Wheel w, int shelf) {
        for (int age = day - w.made; age >= 0; age--) {
            for (int i = bands.size() - 1; i >= 0; i--) {
                int[] b = bands.get(i);
                if (b[0] == w.kind && b[1] == age) {
                    return b[2] <= airs[shelf] && airs[shelf] <= b[3];
                }
            }
        }
        return true;
    }

    int suits(int wheel, int shelf) {
        return !lies(wheel) || shelf < 0 || shelf > 23 ? -1 : suited(wheels.get(wheel), shelf) ? 1 : 0;
    }

    boolean move(int wheel, int shelf) {
        if (!lies(wheel) || shelf < 0 || shelf > 23 || wheels.get(wheel).shelf == shelf || lyingOn(shelf) == 4
            || stays == 200) {
            return false;
        }
        wheels.get(wheel).shelf = shelf;
        stays++;
        fresh = false;
        return true;
    }

    private int bestSum;
    private int[] best;
    private boolean[][] fits;

    int plan() {
        List<Integer> who = new ArrayList<>();
        int[] room = new int[24];
        for (int s = 0; s < 24; s++) {
            room[s] = 4 - lyingOn(s);
        }
        for (int i = 0; i < wheels.size(); i++) {
            if (lies(i) && !suited(wheels.get(i), wheels.get(i).shelf)) {
                who.add(i);
                room[wheels.get(i).shelf]++;
            }
        }
        if (who.size() > 10) {
            return -3;
        }
        best = null;
        bestSum = Integer.MAX_VALUE;
        int[] leastOfRest = new int[who.size() + 1];
        fits = new boolean[who.size()][24];
        for (int i = who.size() - 1; i >= 0; i--) {
            int least = 1000;
            for (int s = 0; s < 24; s++) {
                fits[i][s] = suited(wheels.get(who.get(i)), s);
                if (room[s] > 0 && fits[i][s]) {
                    least = Math.min(least, way(wheels.get(who.get(i)).shelf, s));
                }
            }
            leastOfRest[i] = leastOfRest[i + 1] + least;
        }
        tryOut(who, room, 0, 0, new int[who.size()], leastOfRest);
        if (best == null) {
            return -2;
        }
        plan = new HashMap<>();
        for (int i = 0; i < best.length; i++) {
            plan.put(who.get(i), best[i]);
        }
        fresh = true;
        return bestSum;
    }

    private static int way(int a, int b) {
        return 20 * Math.abs(a / 6 - b / 6) + Math.abs(a % 6 - b % 6);
    }

    private void tryOut(List<Integer> who, int[] room, int i, int sum, int[] chosen, int[] leastOfRest) {
        if (sum + leastOfRest[i] >= bestSum || leastOfRest[i] >= 1000) {
            return;
        }
        if (i == who.size()) {
            bestSum = sum;
            best = chosen.clone();
            return;
        }
        Wheel w = wheels.get(who.get(i));
        for (int s = 0; s < 24; s++) {
            if (room[s] > 0 && fits[i][s]) {
                room[s]--;
                chosen[i] = s;
                tryOut(who, room, i + 1, sum + way(w.shelf, s), chosen, leastOfRest);
                room[s]++;
            }
        }
    }

    int planned(int wheel) {
        return plan == null ? -1 : plan.getOrDefault(wheel, -1);
    }

    int carry() {
        if (plan == null || !fresh || stays + plan.size() > 200) {
            return -1;
        }
        int n = plan.size();
        for (Map.Entry<Integer, Integer> e : plan.entrySet()) {
            wheels.get(e.getKey()).shelf = e.getValue();
        }
        stays += n;
        plan = null;
        return n;
    }

    int mark(int grader, int wheel, int mark) {
        if (grader < 0 || grader > 4 || !isWheel(wheel) || mark < 0 || mark > 20 || marks.size() == 100) {
            return -1;
        }
        marks.add(new int[] {grader, wheel, mark, day, Integer.MAX_VALUE});
        return marks.size() - 1;
    }

    boolean untell(int mark) {
        if (mark < 0 || mark >= marks.size() || marks.get(mark)[4] != Integer.MAX_VALUE) {
            return false;
        }
        marks.get(mark)[4] = day;
        return true;
    }

    int grade(int wheel, int k) {
        Map<Integer, Integer> last = new HashMap<>();
        for (int[] m : marks) {
            boolean untold = m[4] != Integer.MAX_VALUE && m[4] <= k;
            if (m[1] == wheel && m[3] <= k && !untold) {
                last.put(m[0], m[2]);
            }
        }
        List<Integer> values = new ArrayList<>(last.values());
        Collections.sort(values);
        int n = values.size();
        return n == 0 ? -1 : n % 2 == 1 ? values.get(n / 2) : values.get(n / 2 - 1);
    }

    private boolean together(int a, int b) {
        List<Integer> x = wheels.get(a).nights;
        List<Integer> y = wheels.get(b).nights;
        for (int d = 0; d < day; d++) {
            if (x.get(d) >= 0 && x.get(d).equals(y.get(d))) {
                return true;
            }
        }
        return false;
    }

    int beside(int a, int b) {
        return a == b || !isWheel(a) || !isWheel(b) ? -1 : together(a, b) ? 1 : 0;
    }

    long reached(int milk) {
        if (milk < 0 || milk >= milks.size()) {
            return -1;
        }
        boolean[] bits = new boolean[64];
        for (int i = 0; i < wheels.size(); i++) {
            for (int j = 0; j < wheels.size() && wheels.get(i).milks.contains(milk); j++) {
                bits[j] |= i == j || together(i, j);
            }
        }
        long all = 0;
        for (int i = 63; i >= 0; i--) {
            all = all * 2 + (bits[i] ? 1 : 0);
        }
        return all;
    }

    int about(int what) {
        int[] all = {day, milks.size(), wheels.size(), text.deeds.size(), marks.size(), stays, tape.length()};
        return what < 0 || what >= all.length ? -1 : Arrays.copyOf(all, 7)[what];
    }
}
