/**
 * A city whose citizens are called up to sleep, as ../shared/DOC.md tells it.
 *
 * Sets of citizens, districts and hours are ints, one bit for each. Every array is made with the object and
 * used again, because all that a run of calls makes stays in one room.
 */
public final class SleepCalls {
    public static final int BAD = -1, STATE = -2, FULL = -3, NONE = -9;
    public static final int NO = -1000000;

    private static final int NOT_SO_MANY = -5;
    private static final int FAULT_BASE = -10;

    private static final int HOURS = 8;
    private static final int ALL_HOURS = 255;
    private static final int LAST_DAY = 99;
    private static final int MOST_DISTRICTS = 4;
    private static final int MOST_BEDS = 6;
    private static final int MOST_QUOTA = 6;
    private static final int MOST_CITIZENS = 6;
    private static final int ALL_SETS = 1 << MOST_CITIZENS;
    private static final int MOST_TIRED = 20;
    private static final int MOST_DEEP = 9;
    private static final int MOST_NOISES = 6;
    private static final int MOST_LOUD = 9;
    private static final int MOST_LETTERS = 200;
    private static final int MOST_NUMBER = 255;
    private static final int MOST_NUMBERS = 4;
    private static final int MOST_COUNTS = 6;
    private static final int LAST_COUNTED_HOUR = 20;
    private static final int MOST_UNDONE = 10;
    private static final int IMAGES = 2;
    private static final int HOURS_AHEAD = 80;
    private static final int MOST_CALL_UP = 3;
    private static final int TENTHS = 10;
    private static final int NOBODY = -1;

    /** Above the roads of any way, so that one number orders ways by the woken first and the roads second. */
    private static final int WOKEN_ONE = 8;
    private static final int NO_WAY = 1000;

    private final Reader text = new Reader();
    private City told = new City();
    /** A text is read into it, so that a fault leaves what was told as it is. */
    private City spare = new City();

    private final Now present = new Now();
    /** Hours to come go by here, and nothing is changed. */
    private final Now trial = new Now();

    private final Now[] past = new Now[MOST_UNDONE];
    private int latest;
    private int undoable;

    private final Now[] images = new Now[IMAGES];
    private final boolean[] kept = new boolean[IMAGES];

    private final int[] countedHour = new int[MOST_COUNTS];
    private final int[] countedMany = new int[MOST_COUNTS];
    private int counts;

    private final int[] calledUp = new int[MOST_CALL_UP];
    private final int[][] tiredIn = new int[MOST_CALL_UP + 1][MOST_CITIZENS];
    private final int[] wayCost = new int[MOST_DISTRICTS];
    private long trace;

    public SleepCalls() {
        for (int i = 0; i < MOST_UNDONE; i++) {
            past[i] = new Now();
        }
        for (int i = 0; i < IMAGES; i++) {
            images[i] = new Now();
        }
        // The empty text tells the city that there is at first.
        text.readInto(told);
        present.begin(told);
    }

    // ---- the city

    public int type(int letter) {
        if (letter < 0 || letter > 255) {
            return BAD;
        }
        if (text.length >= MOST_LETTERS) {
            return FULL;
        }
        text.letters[text.length] = (char) letter;
        text.length++;
        return text.length;
    }

    public int clear() {
        int had = text.length;
        text.length = 0;
        return had;
    }

    public int city() {
        int items = text.readInto(spare);
        if (items < 0) {
            return items;
        }
        City before = told;
        told = spare;
        spare = before;
        text.length = 0;
        present.begin(told);
        undoable = 0;
        counts = 0;
        for (int i = 0; i < IMAGES; i++) {
            kept[i] = false;
        }
        return items;
    }

    public int district(int d, int what) {
        if (!isDistrict(d)) {
            return BAD;
        }
        switch (what) {
            case 0: return told.beds[d];
            case 1: return told.joined[d];
            default: return BAD;
        }
    }

    public int citizen(int c, int what) {
        if (!isCitizen(c)) {
            return BAD;
        }
        switch (what) {
            case 0: return told.home[c];
            case 1: return present.tired[c];
            case 2: return told.work[c];
            case 3: return told.deep[c];
            case 4: return present.called[c];
            case 5: return present.slept[c];
            default: return BAD;
        }
    }

    public int noise(int i, int what) {
        if (i < 0 || i >= told.noises) {
            return BAD;
        }
        switch (what) {
            case 0: return told.noiseDistrict[i];
            case 1: return told.noiseHour[i];
            case 2: return told.noiseLoud[i];
            default: return BAD;
        }
    }

    public int now(int what) {
        switch (what) {
            case 0: return present.day;
            case 1: return present.hour;
            case 2: return present.lapses;
            case 3: return sleptMost();
            case 4: return sleptLeast();
            case 5: return undoable;
            default: return BAD;
        }
    }

    private int sleptMost() {
        int most = NONE;
        for (int c = 0; c < told.citizens; c++) {
            if (most == NONE || present.slept[c] > present.slept[most]) {
                most = c;
            }
        }
        return most;
    }

    private int sleptLeast() {
        int least = NONE;
        for (int c = 0; c < told.citizens; c++) {
            if (least == NONE || present.slept[c] < present.slept[least]) {
                least = c;
            }
        }
        return least;
    }

    private boolean isDistrict(int d) {
        return d >= 0 && d < told.districts;
    }

    private boolean isCitizen(int c) {
        return c >= 0 && c < told.citizens;
    }

    // ---- what is done

    public int calls(int c, int hours) {
        if (!isCitizen(c) || hours < 0 || hours > ALL_HOURS) {
            return BAD;
        }
        remember();
        int before = present.called[c];
        present.called[c] = hours;
        return before;
    }

    public int hour() {
        if (present.day >= LAST_DAY) {
            return STATE;
        }
        remember();
        return goBy(present, NOBODY);
    }

    public int undo() {
        if (undoable < 1) {
            return STATE;
        }
        present.become(past[latest]);
        latest = (latest + MOST_UNDONE - 1) % MOST_UNDONE;
        undoable--;
        return undoable;
    }

    /** The places of the past go round, so that the eleventh takes that of the oldest. */
    private void remember() {
        latest = (latest + 1) % MOST_UNDONE;
        past[latest].become(present);
        undoable = Math.min(undoable + 1, MOST_UNDONE);
    }

    private int goBy(Now at, int absent) {
        int asleep = told.asleep(at, absent);
        at.pass(told, asleep);
        return asleep;
    }

    private boolean lapses(int asleep) {
        return Integer.bitCount(asleep) < told.quota;
    }

    // ---- hours to come

    public int asleepIn(int n) {
        if (n < 0 || n > HOURS_AHEAD) {
            return BAD;
        }
        trial.become(present);
        int asleep = 0;
        for (int i = 0; i <= n; i++) {
            asleep = goBy(trial, NOBODY);
        }
        return asleep;
    }

    public int lapse() {
        return firstLapse(HOURS_AHEAD + 1, NOBODY);
    }

    private int firstLapse(int hours, int absent) {
        trial.become(present);
        for (int i = 0; i < hours; i++) {
            if (lapses(goBy(trial, absent))) {
                return i;
            }
        }
        return NONE;
    }

    public int callUp(int n, int i) {
        if (n < 1 || n > MOST_CALL_UP || i < -1) {
            return BAD;
        }
        // Ahead of the search: n hours have no hour n, whether there is a call-up for them or not.
        if (i >= n) {
            return NOT_SO_MANY;
        }
        System.arraycopy(present.tired, 0, tiredIn[0], 0, MOST_CITIZENS);
        if (!enoughInEach(n) || !callUpFrom(0, n)) {
            return NONE;
        }
        return i == -1 ? n * told.quota : calledUp[i];
    }

    /** Most of what can't be called up at all is seen here, without a search. */
    private boolean enoughInEach(int n) {
        for (int h = 0; h < n; h++) {
            int able = told.restfulIn[hourAhead(h)];
            if (h == 0) {
                able &= told.tiredOf(tiredIn[0]);
            }
            if (told.bedded(able) < told.quota) {
                return false;
            }
        }
        return true;
    }

    /**
     * Sets of just QUOTA citizens, all of them asleep, are enough: who is called and not asleep, or asleep beyond
     * the quota, can be left out, and is then no less tired in the hours behind. So the fewest in all are QUOTA in
     * each hour, and the first row found in the order of the numbers is the one that is asked for.
     */
    private boolean callUpFrom(int h, int n) {
        if (h >= n || h >= MOST_CALL_UP) {
            return true;
        }
        int able = told.restfulIn[hourAhead(h)] & told.tiredOf(tiredIn[h]);
        for (int set = 0; set < ALL_SETS; set++) {
            if ((set & ~able) != 0 || Integer.bitCount(set) != told.quota || told.bedded(set) != told.quota) {
                continue;
            }
            calledUp[h] = set;
            tire(tiredIn[h], set, tiredIn[h + 1]);
            if (callUpFrom(h + 1, n)) {
                return true;
            }
        }
        return false;
    }

    private int hourAhead(int h) {
        return (present.hour + h) % HOURS;
    }

    private static void tire(int[] before, int asleep, int[] behind) {
        for (int c = 0; c < MOST_CITIZENS; c++) {
            behind[c] = has(asleep, c) ? Math.max(before[c] - 2, 0) : Math.min(before[c] + 1, MOST_TIRED);
        }
    }

    private static boolean has(int set, int i) {
        return (set >> i & 1) == 1;
    }

    public int bears() {
        if (firstLapse(HOURS, NOBODY) != NONE) {
            return 0;
        }
        int borne = 0;
        for (int c = 0; c < told.citizens; c++) {
            if (firstLapse(HOURS, c) == NONE) {
                borne |= 1 << c;
            }
        }
        return borne;
    }

    // ---- carts, drums, beds

    public int cart(int from, int to, int v, int what) {
        if (!isDistrict(from) || !isDistrict(to) || v < 1 || v > MOST_LOUD || what < 0 || what > 1) {
            return BAD;
        }
        int asleep = told.asleep(present, NOBODY);
        for (int d = 0; d < MOST_DISTRICTS; d++) {
            wayCost[d] = NO_WAY;
        }
        wayCost[from] = wakingCost(asleep, from, v);
        for (int roads = 1; roads < told.districts; roads++) {
            for (int d = 0; d < told.districts; d++) {
                driveOn(asleep, d, v);
            }
        }
        if (wayCost[to] >= NO_WAY) {
            return NONE;
        }
        return what == 0 ? wayCost[to] / WOKEN_ONE : wayCost[to] % WOKEN_ONE;
    }

    private int wakingCost(int asleep, int d, int v) {
        return Integer.bitCount(asleep & told.wokenBy(d, v)) * WOKEN_ONE;
    }

    private void driveOn(int asleep, int d, int v) {
        if (wayCost[d] >= NO_WAY) {
            return;
        }
        for (int next = 0; next < told.districts; next++) {
            if (has(told.joined[d], next)) {
                wayCost[next] = Math.min(wayCost[next], wayCost[d] + 1 + wakingCost(asleep, next, v));
            }
        }
    }

    public int drum(int d) {
        if (!isDistrict(d)) {
            return BAD;
        }
        int asleep = told.asleep(present, NOBODY);
        for (int loud = MOST_LOUD; loud >= 0; loud--) {
            if (!lapses(asleep & ~told.wokenBy(d, loud))) {
                return loud;
            }
        }
        return NONE;
    }

    public int wants(int d) {
        if (!isDistrict(d)) {
            return BAD;
        }
        return Integer.bitCount(told.couldLieDown(present) & told.livingIn[d]);
    }

    // ---- counts, odds

    public int counted(int i, int many) {
        if (i < 0 || i > LAST_COUNTED_HOUR || many < 0 || many > MOST_CITIZENS) {
            return BAD;
        }
        if (counts >= MOST_COUNTS) {
            return FULL;
        }
        countedHour[counts] = i;
        countedMany[counts] = many;
        counts++;
        return counts;
    }

    public int forget() {
        int had = counts;
        counts = 0;
        return had;
    }

    public int sham() {
        int shams = 0;
        for (int c = 0; c < told.citizens; c++) {
            if (makesCountsSo(c)) {
                shams |= 1 << c;
            }
        }
        return shams;
    }

    private boolean makesCountsSo(int neverAsleep) {
        trial.begin(told);
        System.arraycopy(present.called, 0, trial.called, 0, MOST_CITIZENS);
        int last = lastCounted();
        for (int i = 0; i <= last; i++) {
            int asleep = told.asleep(trial, NOBODY) & ~(1 << neverAsleep);
            if (!isAsCounted(i, Integer.bitCount(asleep))) {
                return false;
            }
            trial.pass(told, asleep);
        }
        return true;
    }

    private int lastCounted() {
        int last = -1;
        for (int k = 0; k < counts; k++) {
            last = Math.max(last, countedHour[k]);
        }
        return last;
    }

    private boolean isAsCounted(int i, int many) {
        for (int k = 0; k < counts; k++) {
            if (countedHour[k] == i && countedMany[k] != many) {
                return false;
            }
        }
        return true;
    }

    public int odds(int p, int what) {
        if (p < 0 || p > TENTHS || what < 0 || what > 1) {
            return BAD;
        }
        int maybe = told.noisesOf(present.hour);
        int many = Integer.bitCount(maybe);
        int upper = 0;
        int lying = told.lyingDown(present, NOBODY);
        for (int there = 0; there < 1 << MOST_NOISES; there++) {
            if ((there & ~maybe) == 0 && !lapses(lying & ~told.wokenByAll(there))) {
                int heard = Integer.bitCount(there);
                upper += power(p, heard) * power(TENTHS - p, many - heard);
            }
        }
        return inLeastTerms(upper, many, what);
    }

    private static int power(int base, int exponent) {
        int product = 1;
        for (int i = 0; i < exponent; i++) {
            product *= base;
        }
        return product;
    }

    /** The lower number is a power of ten, so 2 and 5 are all that can be taken out of both. */
    private static int inLeastTerms(int upper, int tens, int what) {
        int above = upper;
        int below = power(TENTHS, tens);
        for (int i = 0; i < tens; i++) {
            if (above % 2 == 0) {
                above /= 2;
                below /= 2;
            }
        }
        for (int i = 0; i < tens; i++) {
            if (above % 5 == 0) {
                above /= 5;
                below /= 5;
            }
        }
        return what == 0 ? above : below;
    }

    // ---- kinds, images

    public int rate(int kind, int c) {
        if (!isCitizen(c)) {
            return NO;
        }
        switch (kind) {
            case 0: return asCitizen(c);
            case 1: return asBaker(c);
            case 2: return asDeputy(c);
            case 3: return asGuard(c);
            case 4: return asTwin(c);
            case 5: return asVeteran(c);
            default: return NO;
        }
    }

    private int asCitizen(int c) {
        trace += 1;
        return present.tired[c];
    }

    private int asBaker(int c) {
        trace += 10;
        return asCitizen(c) + Integer.bitCount(told.work[c]);
    }

    private int asDeputy(int c) {
        trace += 100;
        return asCitizen(c) - told.deep[c];
    }

    private int asGuard(int c) {
        trace += 1000;
        return 2 * asBaker(c);
    }

    private int asTwin(int c) {
        trace += 10000;
        return asDeputy(c) + c;
    }

    private int asVeteran(int c) {
        trace += 100000;
        return asCitizen(c) + present.slept[c];
    }

    public int keep(int image) {
        if (image < 0 || image >= IMAGES) {
            return BAD;
        }
        images[image].become(present);
        kept[image] = true;
        return present.day;
    }

    public int back(int image) {
        if (image < 0 || image >= IMAGES) {
            return BAD;
        }
        if (!kept[image]) {
            return STATE;
        }
        present.become(images[image]);
        undoable = 0;
        return present.day;
    }

    public int count(int what) {
        switch (what) {
            case 0: return told.districts;
            case 1: return told.quota;
            case 2: return told.citizens;
            case 3: return told.noises;
            case 4: return counts;
            case 5: return text.length;
            default: return BAD;
        }
    }

    public long trace() {
        return trace;
    }

    /** What goes on from hour to hour: all that an image keeps. */
    private static final class Now {
        int day;
        int hour;
        int lapses;
        final int[] tired = new int[MOST_CITIZENS];
        final int[] called = new int[MOST_CITIZENS];
        final int[] slept = new int[MOST_CITIZENS];

        void begin(City city) {
            day = 0;
            hour = 0;
            lapses = 0;
            for (int c = 0; c < MOST_CITIZENS; c++) {
                tired[c] = city.tiredAtFirst[c];
                called[c] = 0;
                slept[c] = 0;
            }
        }

        void become(Now other) {
            day = other.day;
            hour = other.hour;
            lapses = other.lapses;
            System.arraycopy(other.tired, 0, tired, 0, MOST_CITIZENS);
            System.arraycopy(other.called, 0, called, 0, MOST_CITIZENS);
            System.arraycopy(other.slept, 0, slept, 0, MOST_CITIZENS);
        }

        void pass(City city, int asleep) {
            tire(tired, asleep, tired);
            for (int c = 0; c < city.citizens; c++) {
                slept[c] += asleep >> c & 1;
            }
            if (Integer.bitCount(asleep) < city.quota) {
                lapses++;
            }
            hour++;
            if (hour >= HOURS) {
                hour = 0;
                day++;
            }
        }
    }

    /** What a text tells, and what follows from it alone. */
    private static final class City {
        int districts;
        int quota;
        boolean quotaTold;
        final int[] beds = new int[MOST_DISTRICTS];
        final int[] joined = new int[MOST_DISTRICTS];
        int citizens;
        final int[] home = new int[MOST_CITIZENS];
        final int[] tiredAtFirst = new int[MOST_CITIZENS];
        final int[] work = new int[MOST_CITIZENS];
        final int[] deep = new int[MOST_CITIZENS];
        int noises;
        final int[] noiseDistrict = new int[MOST_NOISES];
        final int[] noiseHour = new int[MOST_NOISES];
        final int[] noiseLoud = new int[MOST_NOISES];
        /** The citizens of each district. */
        final int[] livingIn = new int[MOST_DISTRICTS];
        /** The citizens who have no work in each hour and would not be woken in it. */
        final int[] restfulIn = new int[HOURS];

        void restart() {
            districts = 1;
            quota = 1;
            quotaTold = false;
            citizens = 0;
            noises = 0;
            for (int d = 0; d < MOST_DISTRICTS; d++) {
                beds[d] = MOST_BEDS;
                joined[d] = 0;
                livingIn[d] = 0;
            }
        }

        boolean mayComeNext(int letter, int items) {
            switch (letter) {
                case 'd': return items == 0;
                case 'q': return !quotaTold;
                case 'c': return citizens < MOST_CITIZENS;
                case 'n': return noises < MOST_NOISES;
                default: return letter == 'e' || letter == 'b';
            }
        }

        void tell(int letter, int[] numbers) {
            switch (letter) {
                case 'd':
                    districts = numbers[0];
                    break;
                case 'q':
                    quota = numbers[0];
                    quotaTold = true;
                    break;
                case 'e':
                    joined[numbers[0]] |= 1 << numbers[1];
                    joined[numbers[1]] |= 1 << numbers[0];
                    break;
                case 'b':
                    beds[numbers[0]] = numbers[1];
                    break;
                case 'c':
                    tellCitizen(numbers);
                    break;
                case 'n':
                    tellNoise(numbers);
                    break;
                default:
                    break;
            }
        }

        private void tellCitizen(int[] numbers) {
            home[citizens] = numbers[0];
            tiredAtFirst[citizens] = numbers[1];
            work[citizens] = numbers[2];
            deep[citizens] = numbers[3];
            livingIn[numbers[0]] |= 1 << citizens;
            citizens++;
        }

        private void tellNoise(int[] numbers) {
            noiseDistrict[noises] = numbers[0];
            noiseHour[noises] = numbers[1];
            noiseLoud[noises] = numbers[2];
            noises++;
        }

        /** Not before all is told: a noise may be told ahead of those whom it wakes. */
        void settle() {
            for (int h = 0; h < HOURS; h++) {
                int idle = 0;
                for (int c = 0; c < citizens; c++) {
                    if (!has(work[c], h)) {
                        idle |= 1 << c;
                    }
                }
                restfulIn[h] = idle & ~wokenByAll(noisesOf(h));
            }
        }

        int tiredOf(int[] tired) {
            int set = 0;
            for (int c = 0; c < citizens; c++) {
                if (tired[c] > 0) {
                    set |= 1 << c;
                }
            }
            return set;
        }

        /** How many of a set there are beds for, each in his own district. */
        int bedded(int set) {
            int many = 0;
            for (int d = 0; d < districts; d++) {
                many += Math.min(Integer.bitCount(set & livingIn[d]), beds[d]);
            }
            return many;
        }

        int couldLieDown(Now at) {
            int set = 0;
            for (int c = 0; c < citizens; c++) {
                if (has(at.called[c] & ~work[c], at.hour) && at.tired[c] > 0) {
                    set |= 1 << c;
                }
            }
            return set;
        }

        int lyingDown(Now at, int absent) {
            int could = couldLieDown(at);
            int lying = 0;
            for (int c = 0; c < citizens; c++) {
                int d = home[c];
                if (c != absent && has(could, c) && Integer.bitCount(lying & livingIn[d]) < beds[d]) {
                    lying |= 1 << c;
                }
            }
            return lying;
        }

        int asleep(Now at, int absent) {
            return lyingDown(at, absent) & restfulIn[at.hour];
        }

        int wokenBy(int district, int loud) {
            int set = 0;
            for (int c = 0; c < citizens; c++) {
                if (home[c] == district && deep[c] < loud) {
                    set |= 1 << c;
                }
            }
            return set;
        }

        int wokenByAll(int heard) {
            int set = 0;
            for (int i = 0; i < noises; i++) {
                if (has(heard, i)) {
                    set |= wokenBy(noiseDistrict[i], noiseLoud[i]);
                }
            }
            return set;
        }

        int noisesOf(int hour) {
            int set = 0;
            for (int i = 0; i < noises; i++) {
                if (noiseHour[i] == hour) {
                    set |= 1 << i;
                }
            }
            return set;
        }
    }

    /** THE TEXT, and its reading: one token is at hand at a time, and a fault is always where that one begins. */
    private static final class Reader {
        /** Above all letters: a token that is no number is the letter itself, which nothing asks for if it is none. */
        private static final int NUMBER = 256, WRONG_NUMBER = 257, END = 258;

        final char[] letters = new char[MOST_LETTERS];
        int length;
        private int place;
        private int token;
        private int tokenPlace;
        private int value;
        private final int[] numbers = new int[MOST_NUMBERS];

        /** How many items, or what city() answers to a fault. */
        int readInto(City city) {
            city.restart();
            place = 0;
            nextToken();
            for (int items = 0; items <= MOST_LETTERS; items++) {
                if (token == END) {
                    city.settle();
                    return items;
                }
                if (!readItem(city, items)) {
                    return FAULT_BASE - tokenPlace;
                }
                nextToken();
            }
            return FAULT_BASE - tokenPlace;
        }

        private boolean readItem(City city, int items) {
            int letter = token;
            if (!city.mayComeNext(letter, items)) {
                return false;
            }
            int many = howManyNumbers(letter);
            for (int k = 0; k < many; k++) {
                nextToken();
                if (token != NUMBER || !mayStand(city, letter, k)) {
                    return false;
                }
                numbers[k] = value;
            }
            nextToken();
            if (token != ';') {
                return false;
            }
            city.tell(letter, numbers);
            return true;
        }

        private static int howManyNumbers(int letter) {
            switch (letter) {
                case 'c': return 4;
                case 'n': return 3;
                case 'e': return 2;
                case 'b': return 2;
                default: return 1;
            }
        }

        private boolean mayStand(City city, int letter, int k) {
            switch (letter) {
                case 'd': return isWithin(1, MOST_DISTRICTS);
                case 'q': return isWithin(0, MOST_QUOTA);
                default: break;
            }
            if (k == 0) {
                return isWithin(0, city.districts - 1);
            }
            switch (letter) {
                case 'e': return isWithin(0, city.districts - 1) && value != numbers[0];
                case 'b': return isWithin(0, MOST_BEDS);
                case 'c': return mayStandForCitizen(k);
                default: return k == 1 ? isWithin(0, HOURS - 1) : isWithin(1, MOST_LOUD);
            }
        }

        private boolean mayStandForCitizen(int k) {
            switch (k) {
                case 1: return isWithin(0, MOST_TIRED);
                case 2: return isWithin(0, ALL_HOURS);
                default: return isWithin(1, MOST_DEEP);
            }
        }

        private boolean isWithin(int least, int most) {
            return value >= least && value <= most;
        }

        private void nextToken() {
            while (place < length && letters[place] == ' ') {
                place++;
            }
            tokenPlace = place;
            if (place >= length) {
                token = END;
                return;
            }
            char letter = letters[place];
            if (isDigit(letter)) {
                readNumber();
                return;
            }
            place++;
            token = letter;
        }

        private void readNumber() {
            value = 0;
            while (place < length && isDigit(letters[place])) {
                // A long row of digits must not wrap round to a small number.
                value = Math.min(value * 10 + letters[place] - '0', MOST_NUMBER + 1);
                place++;
            }
            boolean zeroAhead = letters[tokenPlace] == '0' && place - tokenPlace > 1;
            token = zeroAhead || value > MOST_NUMBER ? WRONG_NUMBER : NUMBER;
        }

        private static boolean isDigit(char letter) {
            return letter >= '0' && letter <= '9';
        }
    }
}
