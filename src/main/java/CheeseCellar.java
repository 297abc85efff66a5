import java.util.Arrays;

/** A cellar in which cheeses ripen. What each call promises stands in DOC.md. */
public final class CheeseCellar {
    public static final int NONE = -1;

    private static final int SHELVES = 24;
    private static final int AISLES = 4;
    private static final int AISLE_SHELVES = 6;
    private static final int SHELF_ROOM = 4;
    private static final int MOST_AIR = 9;
    private static final int MOST_DAMP = 99;

    private static final int KINDS = 3;
    private static final int SOFT = 0;
    private static final int WASHED = 1;

    private static final int MOST_MILKS = 30;
    private static final int MOST_FARM = 99;
    private static final int MOST_LITRES = 1000;
    private static final int MOST_WHEELS = 40;
    private static final int WHEEL_MILKS = 3;
    private static final int LITRE_WEIGHT = 100;
    private static final int MOST_OF_ANY = 1000000;

    private static final int MOST_DAYS_AT_ONCE = 400;
    private static final int LAST_DAY = 100000;

    private static final int KIND_BANDS = 4;
    private static final int MOST_BAND_AGE = 1000;
    private static final int MOST_STAYS = 200;
    private static final int MOST_MARKS = 100;
    private static final int GRADERS = 5;
    private static final int MOST_MARK = 20;

    private static final int MOST_PLANNED = 10;
    private static final int NO_PLAN = -2;
    private static final int TOO_MANY_TO_PLAN = -3;

    private static final int TAPE_BYTES = 500;
    private static final int FEED_BYTES = 20;
    private static final int MOST_LINES = 8;
    private static final int MOST_OPERANDS = 80;
    private static final int MOST_DEPTH = 8;
    private static final int MOST_DIGITS = 6;

    /** All words that mean something, each at eight times its token number, filled up with blanks. */
    private static final String WORDS =
        "when    do      turn    wash    brush   or      and     not     kind    age     ripe    mould   weight  air     damp    side    shelf   day     ";
    private static final int WORD_BYTES = 8;
    private static final int WORD_COUNT = 18;

    /* A sign's token is its byte, so the other tokens keep clear of those. */
    private static final int WORD_WHEN = 0;
    private static final int WORD_DO = 1;
    private static final int WORD_TURN = 2;
    private static final int WORD_WASH = 3;
    private static final int WORD_BRUSH = 4;
    private static final int WORD_OR = 5;
    private static final int WORD_AND = 6;
    private static final int WORD_NOT = 7;
    private static final int NAME_KIND = 8;
    private static final int NAME_AGE = 9;
    private static final int NAME_RIPE = 10;
    private static final int NAME_MOULD = 11;
    private static final int NAME_WEIGHT = 12;
    private static final int NAME_AIR = 13;
    private static final int NAME_DAMP = 14;
    private static final int NAME_SIDE = 15;
    private static final int NAME_SHELF = 16;
    private static final int NAME_DAY = 17;
    private static final int NO_TOKEN = 300;
    private static final int TEXT_END = 301;
    private static final int NUMBER = 302;
    private static final int STRANGE_NAME = 303;

    private static final int NO_FAULT = 0;
    private static final int FAULT_NO_TOKEN = 1;
    private static final int FAULT_CANT_STAND = 2;
    private static final int FAULT_NO_SUCH_NAME = 3;

    private final Shelves shelves = new Shelves();
    private final Milk[] milks = new Milk[MOST_MILKS];
    private final Wheel[] wheels = new Wheel[MOST_WHEELS];
    private final Bands bands = new Bands();
    private final Stays stays = new Stays();
    private final Marks marks = new Marks();
    private final Planner planner = new Planner();
    private final Tape tape = new Tape();
    private final Reader reader = new Reader();
    private final int[] usedMilks = new int[WHEEL_MILKS];
    private final int[] usedLitres = new int[WHEEL_MILKS];
    private Orders ordersNow = new Orders();
    private Orders ordersNext = new Orders();
    private int milkCount;
    private int wheelCount;
    private int today;

    public CheeseCellar() {
    }

    public boolean air(int shelf, int air) {
        if (!isUpTo(shelf, SHELVES - 1) || !isUpTo(air, MOST_AIR)) {
            return false;
        }
        shelves.airs[shelf] = air;
        planner.spoil();
        return true;
    }

    public boolean damp(int aisle, int damp) {
        if (!isUpTo(aisle, AISLES - 1) || !isUpTo(damp, MOST_DAMP)) {
            return false;
        }
        shelves.damps[aisle] = damp;
        return true;
    }

    public int milk(int farm, int litres) {
        boolean canBe = isUpTo(farm, MOST_FARM) && litres >= 1 && litres <= MOST_LITRES;
        if (!canBe || milkCount >= MOST_MILKS) {
            return NONE;
        }
        milks[milkCount] = new Milk(farm, litres);
        milkCount++;
        return milkCount - 1;
    }

    public int wheel(int kind, int shelf, int a, int litresA, int b, int litresB, int c, int litresC) {
        usedMilks[0] = a;
        usedMilks[1] = b;
        usedMilks[2] = c;
        usedLitres[0] = litresA;
        usedLitres[1] = litresB;
        usedLitres[2] = litresC;
        boolean canBe = isUpTo(kind, KINDS - 1) && shelves.hasRoom(shelf) && a != NONE && areMilksThere();
        if (!canBe || wheelCount >= MOST_WHEELS || !stays.haveRoomFor(1)) {
            return NONE;
        }
        return makeWheel(kind, shelf);
    }

    public boolean sell(int wheel) {
        Wheel sold = lyingWheel(wheel);
        if (sold == null) {
            return false;
        }
        stays.finish(sold.stay, today);
        shelves.lift(sold.shelf);
        sold.shelf = NONE;
        planner.spoil();
        return true;
    }

    public int feed(int a, int b, int c, int d, int e) {
        if (tape.size > TAPE_BYTES - FEED_BYTES) {
            return NONE;
        }
        tape.take(a);
        tape.take(b);
        tape.take(c);
        tape.take(d);
        tape.take(e);
        return tape.size;
    }

    public int end(int n) {
        if (!isUpTo(n, tape.size)) {
            return NONE;
        }
        tape.size = n;
        return n;
    }

    public int orders() {
        boolean isGood = reader.read(tape, ordersNext);
        tape.size = 0;
        if (!isGood) {
            return NONE;
        }
        Orders old = ordersNow;
        ordersNow = ordersNext;
        ordersNext = old;
        return ordersNow.lines;
    }

    public int fault(int what) {
        switch (what) {
            case 0: return reader.faultKind;
            case 1: return reader.faultPlace;
            default: return NONE;
        }
    }

    public int days(int n) {
        if (!isUpTo(n, MOST_DAYS_AT_ONCE)) {
            return NONE;
        }
        int count = Math.min(n, LAST_DAY - today);
        for (int i = 0; i < count; i++) {
            passDay();
        }
        return count;
    }

    public int of(int wheel, int what) {
        Wheel asked = wheelAt(wheel);
        if (asked == null) {
            return NONE;
        }
        switch (what) {
            case 0: return asked.kind;
            case 1: return asked.shelf;
            case 2: return asked.ripeness;
            case 3: return asked.mould;
            case 4: return asked.weight;
            case 5: return ageOf(asked);
            case 6: return asked.side;
            case 7: return isSuited(asked, asked.shelf) ? 1 : 0;
            default: return NONE;
        }
    }

    public int from(int milk, int what) {
        Milk asked = milkAt(milk);
        if (asked == null) {
            return NONE;
        }
        switch (what) {
            case 0: return asked.farm;
            case 1: return asked.left;
            case 2: return asked.wheelsMade;
            default: return NONE;
        }
    }

    public int band(int kind, int age, int least, int most) {
        boolean canBe = isUpTo(kind, KINDS - 1) && isUpTo(age, MOST_BAND_AGE)
            && isUpTo(most, MOST_AIR) && isUpTo(least, most);
        if (!canBe || !bands.haveRoomFor(kind)) {
            return NONE;
        }
        planner.spoil();
        return bands.keep(kind, age, least, most);
    }

    public int suits(int wheel, int shelf) {
        Wheel asked = lyingWheel(wheel);
        if (asked == null || !isUpTo(shelf, SHELVES - 1)) {
            return NONE;
        }
        return isSuited(asked, shelf) ? 1 : 0;
    }

    public boolean move(int wheel, int shelf) {
        Wheel moved = lyingWheel(wheel);
        if (moved == null || moved.shelf == shelf || !shelves.hasRoom(shelf) || !stays.haveRoomFor(1)) {
            return false;
        }
        takeTo(moved, shelf);
        planner.spoil();
        return true;
    }

    public int plan() {
        planner.start(shelves);
        for (int i = 0; i < wheelCount; i++) {
            Wheel lying = lyingWheel(i);
            if (lying != null && !isSuited(lying, lying.shelf)) {
                if (planner.isFull()) {
                    return TOO_MANY_TO_PLAN;
                }
                askPlanFor(lying);
            }
        }
        return planner.findBest();
    }

    public int planned(int wheel) {
        return planner.shelfFor(wheel);
    }

    public int carry() {
        if (!planner.canBeCarried() || !stays.haveRoomFor(planner.keptCount)) {
            return NONE;
        }
        int count = planner.keptCount;
        for (int i = 0; i < wheelCount; i++) {
            Wheel moved = lyingWheel(i);
            int shelf = planner.shelfFor(i);
            if (moved != null && shelf != NONE) {
                takeTo(moved, shelf);
            }
        }
        planner.forget();
        return count;
    }

    public int mark(int grader, int wheel, int mark) {
        boolean canBe = isUpTo(grader, GRADERS - 1) && wheelAt(wheel) != null && isUpTo(mark, MOST_MARK);
        if (!canBe || marks.areFull()) {
            return NONE;
        }
        return marks.keep(grader, wheel, mark, today);
    }

    public boolean untell(int mark) {
        return marks.takeBack(mark, today);
    }

    public int grade(int wheel, int day) {
        if (wheelAt(wheel) == null) {
            return NONE;
        }
        return marks.middleOf(wheel, day);
    }

    public int beside(int a, int b) {
        if (a == b || wheelAt(a) == null || wheelAt(b) == null) {
            return NONE;
        }
        long besideA = stays.besideAny(1L << a, today);
        return (besideA >>> b & 1L) != 0 ? 1 : 0;
    }

    public long reached(int milk) {
        if (milkAt(milk) == null) {
            return NONE;
        }
        long made = wheelsFrom(milk);
        return made | stays.besideAny(made, today);
    }

    public int about(int what) {
        switch (what) {
            case 0: return today;
            case 1: return milkCount;
            case 2: return wheelCount;
            case 3: return ordersNow.lines;
            case 4: return marks.count;
            case 5: return stays.count;
            case 6: return tape.size;
            default: return NONE;
        }
    }

    private static boolean isUpTo(int value, int most) {
        return value >= 0 && value <= most;
    }

    private Milk milkAt(int number) {
        return number >= 0 && number < milkCount ? milks[number] : null;
    }

    private Wheel wheelAt(int number) {
        return number >= 0 && number < wheelCount ? wheels[number] : null;
    }

    private Wheel lyingWheel(int number) {
        Wheel wheel = wheelAt(number);
        return wheel != null && wheel.shelf != NONE ? wheel : null;
    }

    private int ageOf(Wheel wheel) {
        return today - wheel.madeOn;
    }

    private boolean isSuited(Wheel wheel, int shelf) {
        return isUpTo(shelf, SHELVES - 1) && bands.allow(wheel.kind, ageOf(wheel), shelves.airs[shelf]);
    }

    private boolean areMilksThere() {
        for (int i = 0; i < WHEEL_MILKS; i++) {
            if (usedMilks[i] != NONE && !isMilkThere(i)) {
                return false;
            }
        }
        return true;
    }

    private boolean isMilkThere(int use) {
        for (int i = 0; i < use; i++) {
            if (usedMilks[i] == usedMilks[use]) {
                return false;
            }
        }
        Milk milk = milkAt(usedMilks[use]);
        return milk != null && usedLitres[use] >= 1 && usedLitres[use] <= milk.left;
    }

    private int makeWheel(int kind, int shelf) {
        int number = wheelCount;
        Wheel made = new Wheel(number, kind, today);
        for (int i = 0; i < WHEEL_MILKS; i++) {
            Milk milk = milkAt(usedMilks[i]);
            if (milk != null) {
                milk.left -= usedLitres[i];
                milk.wheelsMade++;
                made.weight += LITRE_WEIGHT * usedLitres[i];
                made.milkBits |= 1 << usedMilks[i];
            }
        }
        layOn(made, shelf);
        wheels[number] = made;
        wheelCount++;
        planner.spoil();
        return number;
    }

    private void layOn(Wheel wheel, int shelf) {
        wheel.shelf = shelf;
        wheel.stay = stays.begin(wheel.number, shelf, today);
        shelves.lay(shelf);
    }

    private void takeTo(Wheel wheel, int shelf) {
        stays.finish(wheel.stay, today);
        shelves.lift(wheel.shelf);
        layOn(wheel, shelf);
    }

    private void passDay() {
        for (int i = 0; i < wheelCount; i++) {
            Wheel lying = lyingWheel(i);
            if (lying != null) {
                int air = shelves.airAt(lying.shelf);
                int damp = shelves.dampAt(lying.shelf);
                ordersNow.obeyFor(lying, air, damp, today);
                lying.ripen(air, damp);
            }
        }
        today++;
        planner.spoil();
    }

    private void askPlanFor(Wheel wheel) {
        planner.ask(wheel.number, wheel.shelf);
        for (int shelf = 0; shelf < SHELVES; shelf++) {
            if (isSuited(wheel, shelf)) {
                planner.allowLast(shelf);
            }
        }
    }

    private long wheelsFrom(int milk) {
        long made = 0;
        for (int i = 0; i < wheelCount; i++) {
            Wheel wheel = wheelAt(i);
            if (wheel != null && (wheel.milkBits >>> milk & 1) != 0) {
                made |= 1L << i;
            }
        }
        return made;
    }

    private static final class Shelves {
        final int[] airs = new int[SHELVES];
        final int[] damps = new int[AISLES];
        final int[] lying = new int[SHELVES];

        int airAt(int shelf) {
            return isUpTo(shelf, SHELVES - 1) ? airs[shelf] : 0;
        }

        int dampAt(int shelf) {
            return isUpTo(shelf, SHELVES - 1) ? damps[shelf / AISLE_SHELVES] : 0;
        }

        int roomAt(int shelf) {
            return isUpTo(shelf, SHELVES - 1) ? SHELF_ROOM - lying[shelf] : 0;
        }

        boolean hasRoom(int shelf) {
            return roomAt(shelf) > 0;
        }

        void lay(int shelf) {
            if (isUpTo(shelf, SHELVES - 1)) {
                lying[shelf]++;
            }
        }

        void lift(int shelf) {
            if (isUpTo(shelf, SHELVES - 1)) {
                lying[shelf]--;
            }
        }
    }

    private static final class Milk {
        final int farm;
        int left;
        int wheelsMade;

        Milk(int farm, int litres) {
            this.farm = farm;
            this.left = litres;
        }
    }

    private static final class Wheel {
        final int number;
        final int kind;
        final int madeOn;
        int milkBits;
        int shelf = NONE;
        int stay = NONE;
        int ripeness;
        int mould;
        int weight;
        int side;

        Wheel(int number, int kind, int madeOn) {
            this.number = number;
            this.kind = kind;
            this.madeOn = madeOn;
        }

        void doDeed(int deed) {
            if (deed == WORD_TURN) {
                side = 0;
            } else if (deed == WORD_WASH) {
                mould = within(mould - (kind == WASHED ? 10 : 4));
                weight = within(weight + 5);
            } else if (deed == WORD_BRUSH) {
                mould = within(mould - 6);
                weight = within(weight - 2);
            }
        }

        void ripen(int air, int damp) {
            ripeness = within(ripeness + ripeningBy(air, damp));
            mould = within(mould + damp / 20 + side / 3);
            weight = within(weight - air);
            side++;
        }

        private int ripeningBy(int air, int damp) {
            if (kind == SOFT) {
                return 3 + air / 3;
            }
            return kind == WASHED ? 2 + damp / 30 : 1 + air / 5;
        }

        private static int within(int value) {
            return Math.max(0, Math.min(value, MOST_OF_ANY));
        }
    }

    private static final class Bands {
        final int[] counts = new int[KINDS];
        final int[] ages = new int[KINDS * KIND_BANDS];
        final int[] leasts = new int[KINDS * KIND_BANDS];
        final int[] mosts = new int[KINDS * KIND_BANDS];

        boolean haveRoomFor(int kind) {
            return isUpTo(kind, KINDS - 1) && counts[kind] < KIND_BANDS;
        }

        int keep(int kind, int age, int least, int most) {
            if (!haveRoomFor(kind)) {
                return NONE;
            }
            int place = kind * KIND_BANDS + counts[kind];
            ages[place] = age;
            leasts[place] = least;
            mosts[place] = most;
            counts[kind]++;
            return counts[kind];
        }

        boolean allow(int kind, int age, int air) {
            int place = placeFor(kind, age);
            return place == NONE || air >= leasts[place] && air <= mosts[place];
        }

        private int placeFor(int kind, int age) {
            if (!isUpTo(kind, KINDS - 1)) {
                return NONE;
            }
            int best = NONE;
            int first = kind * KIND_BANDS;
            for (int i = first; i < first + counts[kind]; i++) {
                if (ages[i] <= age && (best == NONE || ages[i] >= ages[best])) {
                    best = i;
                }
            }
            return best;
        }
    }

    private static final class Stays {
        final int[] wheelOf = new int[MOST_STAYS];
        final int[] shelfOf = new int[MOST_STAYS];
        final int[] beganOn = new int[MOST_STAYS];
        final int[] leftOn = new int[MOST_STAYS];
        int count;

        boolean haveRoomFor(int more) {
            return more <= MOST_STAYS - count;
        }

        int begin(int wheel, int shelf, int day) {
            if (count >= MOST_STAYS) {
                return NONE;
            }
            wheelOf[count] = wheel;
            shelfOf[count] = shelf;
            beganOn[count] = day;
            leftOn[count] = NONE;
            count++;
            return count - 1;
        }

        void finish(int stay, int day) {
            if (stay >= 0 && stay < count) {
                leftOn[stay] = day;
            }
        }

        /** The wheels that lay beside one of these wheels; both as bits. */
        long besideAny(long wheels, int today) {
            long found = 0;
            for (int i = 0; i < count; i++) {
                if ((wheels >>> wheelOf[i] & 1L) != 0) {
                    found |= besideStay(i, today);
                }
            }
            return found;
        }

        private long besideStay(int stay, int today) {
            long found = 0;
            for (int i = 0; i < count; i++) {
                if (wheelOf[i] != wheelOf[stay] && shelfOf[i] == shelfOf[stay] && shareNight(i, stay, today)) {
                    found |= 1L << wheelOf[i];
                }
            }
            return found;
        }

        private boolean shareNight(int a, int b, int today) {
            return Math.max(beganOn[a], beganOn[b]) < Math.min(nightsUpTo(a, today), nightsUpTo(b, today));
        }

        /* Today has not ended yet, so a wheel that still lies there has no night of today. */
        private int nightsUpTo(int stay, int today) {
            return leftOn[stay] == NONE ? today : leftOn[stay];
        }
    }

    private static final class Marks {
        final int[] graderOf = new int[MOST_MARKS];
        final int[] wheelOf = new int[MOST_MARKS];
        final int[] valueOf = new int[MOST_MARKS];
        final int[] toldOn = new int[MOST_MARKS];
        final int[] untoldOn = new int[MOST_MARKS];
        final int[] lastBy = new int[GRADERS];
        int count;

        boolean areFull() {
            return count >= MOST_MARKS;
        }

        int keep(int grader, int wheel, int value, int day) {
            if (areFull()) {
                return NONE;
            }
            graderOf[count] = grader;
            wheelOf[count] = wheel;
            valueOf[count] = value;
            toldOn[count] = day;
            untoldOn[count] = NONE;
            count++;
            return count - 1;
        }

        boolean takeBack(int mark, int day) {
            if (mark < 0 || mark >= count || untoldOn[mark] != NONE) {
                return false;
            }
            untoldOn[mark] = day;
            return true;
        }

        int middleOf(int wheel, int day) {
            int graders = gatherLast(wheel, day);
            int before = (graders - 1) / 2;
            for (int value = 0; value <= MOST_MARK && graders > 0; value++) {
                int same = gradersWith(value);
                if (same > before) {
                    return value;
                }
                before -= same;
            }
            return NONE;
        }

        private int gatherLast(int wheel, int day) {
            Arrays.fill(lastBy, NONE);
            for (int i = 0; i < count; i++) {
                int grader = graderOf[i];
                if (wheelOf[i] == wheel && isKnown(i, day) && isUpTo(grader, GRADERS - 1)) {
                    lastBy[grader] = valueOf[i];
                }
            }
            return GRADERS - gradersWith(NONE);
        }

        private boolean isKnown(int mark, int day) {
            return toldOn[mark] <= day && (untoldOn[mark] == NONE || untoldOn[mark] > day);
        }

        private int gradersWith(int value) {
            int found = 0;
            for (int i = 0; i < GRADERS; i++) {
                if (lastBy[i] == value) {
                    found++;
                }
            }
            return found;
        }
    }

    private static final class Tape {
        final int[] bytes = new int[TAPE_BYTES];
        int size;

        void take(int word) {
            for (int shift = 24; shift >= 0; shift -= 8) {
                if (size < TAPE_BYTES) {
                    bytes[size] = word >>> shift & 255;
                    size++;
                }
            }
        }

        int byteAt(int place) {
            return place >= 0 && place < size ? bytes[place] : NONE;
        }
    }

    /** The tokens of a tape, up to its end or to the first place that holds none. */
    private static final class Tokens {
        final int[] kinds = new int[TAPE_BYTES + 1];
        final int[] places = new int[TAPE_BYTES + 1];
        final int[] numbers = new int[TAPE_BYTES + 1];
        int count;

        void cut(Tape tape) {
            int place = 0;
            count = 0;
            for (int i = 0; i <= TAPE_BYTES; i++) {
                place = behindBlanks(tape, place);
                int kind = kindOf(tape, place);
                kinds[i] = kind;
                places[i] = place;
                numbers[i] = kind == NUMBER ? numberOf(tape, place) : 0;
                count = i + 1;
                if (kind == TEXT_END || kind == NO_TOKEN) {
                    return;
                }
                place += lengthAt(tape, place);
            }
        }

        private static int behindBlanks(Tape tape, int place) {
            int next = place;
            while (next < tape.size && (tape.byteAt(next) == ' ' || tape.byteAt(next) == '\n')) {
                next++;
            }
            return next;
        }

        private static int kindOf(Tape tape, int place) {
            int first = tape.byteAt(place);
            if (first == NONE) {
                return TEXT_END;
            }
            int length = lengthAt(tape, place);
            if (isLetter(first)) {
                return length > WORD_BYTES ? NO_TOKEN : wordAt(tape, place, length);
            }
            if (isDigit(first)) {
                return length > MOST_DIGITS || isLetter(tape.byteAt(place + length)) ? NO_TOKEN : NUMBER;
            }
            return isSign(first) ? first : NO_TOKEN;
        }

        private static int lengthAt(Tape tape, int place) {
            int first = tape.byteAt(place);
            int next = place + 1;
            while (next < tape.size && isSameSort(first, tape.byteAt(next))) {
                next++;
            }
            return next - place;
        }

        private static boolean isSameSort(int first, int other) {
            return isLetter(first) && isLetter(other) || isDigit(first) && isDigit(other);
        }

        private static int numberOf(Tape tape, int place) {
            int number = 0;
            for (int i = 0; i < MOST_DIGITS && isDigit(tape.byteAt(place + i)); i++) {
                number = number * 10 + tape.byteAt(place + i) - '0';
            }
            return number;
        }

        private static int wordAt(Tape tape, int place, int length) {
            for (int word = 0; word < WORD_COUNT; word++) {
                if (isWord(word, tape, place, length)) {
                    return word;
                }
            }
            return STRANGE_NAME;
        }

        private static boolean isWord(int word, Tape tape, int place, int length) {
            for (int i = 0; i < WORD_BYTES; i++) {
                int found = i < length ? tape.byteAt(place + i) : ' ';
                if (found != WORDS.charAt(word * WORD_BYTES + i)) {
                    return false;
                }
            }
            return true;
        }

        private static boolean isLetter(int b) {
            return b >= 'a' && b <= 'z';
        }

        private static boolean isDigit(int b) {
            return b >= '0' && b <= '9';
        }

        private static boolean isSign(int b) {
            return b == ';' || b == '<' || b == '>' || b == '=' || b == '+' || b == '-' || b == '(' || b == ')';
        }
    }

    /**
     * Lines ready to be worked out: items with operands before what joins them.
     * An item is a number if it is 0 or more, else the complement of a token.
     */
    private static final class Orders {
        final int[] items = new int[TAPE_BYTES];
        final int[] lineEnds = new int[MOST_LINES];
        final int[] deeds = new int[MOST_LINES];
        final int[] named = new int[WORD_COUNT];
        final int[] pile = new int[MOST_OPERANDS];
        int itemCount;
        int lines;
        int height;

        void clear() {
            itemCount = 0;
            lines = 0;
        }

        void addItem(int item) {
            if (itemCount < TAPE_BYTES) {
                items[itemCount] = item;
                itemCount++;
            }
        }

        void closeLine(int deed) {
            if (lines < MOST_LINES) {
                lineEnds[lines] = itemCount;
                deeds[lines] = deed;
                lines++;
            }
        }

        void obeyFor(Wheel wheel, int air, int damp, int day) {
            named[NAME_AIR] = air;
            named[NAME_DAMP] = damp;
            named[NAME_DAY] = day;
            int first = 0;
            for (int i = 0; i < lines; i++) {
                nameThings(wheel, day);
                if (workOut(first, lineEnds[i]) != 0) {
                    wheel.doDeed(deeds[i]);
                }
                first = lineEnds[i];
            }
        }

        private void nameThings(Wheel wheel, int day) {
            named[NAME_KIND] = wheel.kind;
            named[NAME_AGE] = day - wheel.madeOn;
            named[NAME_RIPE] = wheel.ripeness;
            named[NAME_MOULD] = wheel.mould;
            named[NAME_WEIGHT] = wheel.weight;
            named[NAME_SIDE] = wheel.side;
            named[NAME_SHELF] = wheel.shelf;
        }

        private int workOut(int first, int end) {
            height = 0;
            for (int i = first; i < end; i++) {
                int item = items[i];
                if (item >= 0) {
                    put(item);
                } else {
                    applyToken(~item);
                }
            }
            return pick();
        }

        private void applyToken(int token) {
            if (token == WORD_NOT) {
                put(pick() == 0 ? 1 : 0);
            } else if (token < WORD_COUNT && token > WORD_NOT) {
                put(named[token]);
            } else {
                int right = pick();
                int left = pick();
                put(join(token, left, right));
            }
        }

        private static int join(int token, int left, int right) {
            switch (token) {
                case '+': return left + right;
                case '-': return left - right;
                case '<': return left < right ? 1 : 0;
                case '>': return left > right ? 1 : 0;
                case '=': return left == right ? 1 : 0;
                case WORD_AND: return left != 0 && right != 0 ? 1 : 0;
                default: return left != 0 || right != 0 ? 1 : 0;
            }
        }

        private void put(int value) {
            if (height < MOST_OPERANDS) {
                pile[height] = value;
                height++;
            }
        }

        private int pick() {
            if (height <= 0) {
                return 0;
            }
            height--;
            return pile[height];
        }
    }

    /** Reads a tape into orders, and tells the first fault of it. */
    private static final class Reader {
        private static final int LEVEL_OR = 0;
        private static final int LEVEL_AND = 1;
        private static final int LEVEL_SUM = 2;

        final Tokens tokens = new Tokens();
        int next;
        int token;
        int place;
        int number;
        int operands;
        int faultKind = NO_FAULT;
        int faultPlace = NONE;

        boolean read(Tape tape, Orders into) {
            tokens.cut(tape);
            next = 0;
            step();
            operands = 0;
            faultKind = NO_FAULT;
            faultPlace = NONE;
            into.clear();
            for (int i = 0; i < MOST_LINES && token != TEXT_END; i++) {
                if (!readLine(into)) {
                    return false;
                }
            }
            return token == TEXT_END || refuse(FAULT_CANT_STAND);
        }

        private void step() {
            if (next < tokens.count) {
                token = tokens.kinds[next];
                place = tokens.places[next];
                number = tokens.numbers[next];
                next++;
            }
        }

        private boolean refuse(int kind) {
            faultKind = token == NO_TOKEN ? FAULT_NO_TOKEN : kind;
            faultPlace = place;
            return false;
        }

        private boolean pass(int expected) {
            if (token != expected) {
                return refuse(FAULT_CANT_STAND);
            }
            step();
            return true;
        }

        private boolean readLine(Orders into) {
            if (!pass(WORD_WHEN) || !readJoined(LEVEL_OR, 0, into) || !pass(WORD_DO)) {
                return false;
            }
            if (token != WORD_TURN && token != WORD_WASH && token != WORD_BRUSH) {
                return refuse(FAULT_CANT_STAND);
            }
            into.closeLine(token);
            step();
            return pass(';');
        }

        /** Reads an e, a both or a sum: parts of the level below with this level's joints between them. */
        private boolean readJoined(int level, int depth, Orders into) {
            int joint = NONE;
            for (int i = 0; i < TAPE_BYTES; i++) {
                boolean isRead = level == LEVEL_OR ? readJoined(LEVEL_AND, depth, into)
                    : level == LEVEL_AND ? readOne(depth, into) : readTerm(depth, into);
                if (!isRead) {
                    return false;
                }
                if (joint != NONE) {
                    into.addItem(~joint);
                }
                if (!isJoint(level)) {
                    return true;
                }
                joint = token;
                step();
            }
            return false;
        }

        private boolean isJoint(int level) {
            switch (level) {
                case LEVEL_OR: return token == WORD_OR;
                case LEVEL_AND: return token == WORD_AND;
                default: return token == '+' || token == '-';
            }
        }

        /* Every e begins with a one at its own depth, so the look here finds both where they are too deep. */
        private boolean readOne(int depth, Orders into) {
            if (depth >= MOST_DEPTH) {
                return refuse(FAULT_CANT_STAND);
            }
            if (token == WORD_NOT) {
                step();
                if (!readOne(depth + 1, into)) {
                    return false;
                }
                into.addItem(~WORD_NOT);
                return true;
            }
            return readJoined(LEVEL_SUM, depth, into) && readComparison(depth, into);
        }

        private boolean readComparison(int depth, Orders into) {
            int sign = token;
            if (sign != '<' && sign != '>' && sign != '=') {
                return true;
            }
            step();
            if (!readJoined(LEVEL_SUM, depth, into)) {
                return false;
            }
            into.addItem(~sign);
            return true;
        }

        private boolean readTerm(int depth, Orders into) {
            if (token == '(') {
                step();
                return readJoined(LEVEL_OR, depth + 1, into) && pass(')');
            }
            boolean isName = token >= NAME_KIND && token <= NAME_DAY;
            boolean isOperand = isName || token == STRANGE_NAME || token == NUMBER;
            if (!isOperand || operands >= MOST_OPERANDS) {
                return refuse(FAULT_CANT_STAND);
            }
            if (token == STRANGE_NAME) {
                return refuse(FAULT_NO_SUCH_NAME);
            }
            operands++;
            into.addItem(isName ? ~token : number);
            step();
            return true;
        }
    }

    /**
     * Finds the best plan. One price of a wheel on a shelf holds its way and, in lower digits,
     * the shelf's number, so that the least sum of prices is at once the first among like ways.
     */
    private static final class Planner {
        /** 24 to the power of 10: above ten digits of base 24, one for the shelf of each wheel. */
        private static final long WAY_PRICE = 63403380965376L;
        /** Above any sum of ten prices, and of what a chain of changes adds to one. */
        private static final long NEVER = 1L << 62;

        final int[] wheelOf = new int[MOST_PLANNED];
        final int[] homeOf = new int[MOST_PLANNED];
        final int[] shelfOf = new int[MOST_PLANNED];
        final long[] prices = new long[MOST_PLANNED * SHELVES];
        final int[] rooms = new int[SHELVES];
        final long[] reach = new long[SHELVES];
        final int[] comer = new int[SHELVES];
        final int[] kept = new int[MOST_WHEELS];
        int count;
        int keptCount;
        boolean isKept;
        boolean isSpoilt;

        void start(Shelves shelves) {
            count = 0;
            Arrays.fill(prices, NEVER);
            for (int shelf = 0; shelf < SHELVES; shelf++) {
                rooms[shelf] = shelves.roomAt(shelf);
            }
        }

        boolean isFull() {
            return count >= MOST_PLANNED;
        }

        void ask(int wheel, int home) {
            if (isFull() || !isUpTo(home, SHELVES - 1)) {
                return;
            }
            wheelOf[count] = wheel;
            homeOf[count] = home;
            rooms[home]++;
            count++;
        }

        void allowLast(int shelf) {
            int row = count - 1;
            if (row < 0 || !isUpTo(shelf, SHELVES - 1)) {
                return;
            }
            long digit = WAY_PRICE;
            for (int i = 0; i <= row; i++) {
                digit /= SHELVES;
            }
            prices[row * SHELVES + shelf] = wayBetween(homeOf[row], shelf) * WAY_PRICE + shelf * digit;
        }

        int findBest() {
            int sum = 0;
            for (int row = 0; row < count; row++) {
                if (!placeRow(row)) {
                    return NO_PLAN;
                }
            }
            for (int row = 0; row < count; row++) {
                sum += wayBetween(homeOf[row], shelfOf[row]);
            }
            keepPlan();
            return sum;
        }

        int shelfFor(int wheel) {
            return isKept && isUpTo(wheel, MOST_WHEELS - 1) ? kept[wheel] : NONE;
        }

        boolean canBeCarried() {
            return isKept && !isSpoilt;
        }

        void spoil() {
            isSpoilt = true;
        }

        void forget() {
            isKept = false;
            keptCount = 0;
        }

        private static int wayBetween(int a, int b) {
            int aisles = Math.abs(a / AISLE_SHELVES - b / AISLE_SHELVES);
            int numbers = Math.abs(a % AISLE_SHELVES - b % AISLE_SHELVES);
            return 20 * aisles + numbers;
        }

        private void keepPlan() {
            Arrays.fill(kept, NONE);
            for (int row = 0; row < count; row++) {
                if (isUpTo(wheelOf[row], MOST_WHEELS - 1)) {
                    kept[wheelOf[row]] = shelfOf[row];
                }
            }
            keptCount = count;
            isKept = true;
            isSpoilt = false;
        }

        /* The rows before are placed as cheaply as can be; the cheapest chain of changes keeps it so with one more. */
        private boolean placeRow(int row) {
            for (int shelf = 0; shelf < SHELVES; shelf++) {
                reach[shelf] = prices[row * SHELVES + shelf];
                comer[shelf] = row;
            }
            boolean isCheaper = true;
            for (int i = 0; i < SHELVES && isCheaper; i++) {
                isCheaper = spread(row);
            }
            int last = cheapestWithRoom();
            if (last == NONE) {
                return false;
            }
            rooms[last]--;
            shiftChain(row, last);
            return true;
        }

        private boolean spread(int row) {
            boolean isCheaper = false;
            for (int other = 0; other < row; other++) {
                int left = shelfOf[other];
                for (int shelf = 0; shelf < SHELVES && reach[left] != NEVER; shelf++) {
                    long price = prices[other * SHELVES + shelf];
                    if (price != NEVER && reach[left] - prices[other * SHELVES + left] + price < reach[shelf]) {
                        reach[shelf] = reach[left] - prices[other * SHELVES + left] + price;
                        comer[shelf] = other;
                        isCheaper = true;
                    }
                }
            }
            return isCheaper;
        }

        private int cheapestWithRoom() {
            int best = NONE;
            for (int shelf = 0; shelf < SHELVES; shelf++) {
                if (rooms[shelf] > 0 && reach[shelf] != NEVER && (best == NONE || reach[shelf] < reach[best])) {
                    best = shelf;
                }
            }
            return best;
        }

        private void shiftChain(int row, int last) {
            int shelf = last;
            for (int i = 0; i <= row; i++) {
                int mover = comer[shelf];
                int left = shelfOf[mover];
                shelfOf[mover] = shelf;
                if (mover == row) {
                    return;
                }
                shelf = left;
            }
        }
    }
}
