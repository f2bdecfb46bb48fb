/**
 * Mornings at a door, as ../shared/DOC.md tells them; the names here follow its words.
 * Every row is made in the constructor: no call makes an object.
 */
public final class DoorMornings {
    public static final int BAD = -1, STATE = -2, FULL = -3, NONE = -9;
    public static final int NO = -1000000;

    private static final int MOST_LETTERS = 120;
    private static final int MOST_GOODBYES = 5;
    private static final int MOST_WOMEN = 4;
    private static final int MOST_TOLD_TEARS = 40;
    private static final int MOST_GAIN = 3;
    private static final int MOST_LIKING = 9;
    private static final int MOST_TRUST = 24;
    private static final int MOST_LENGTH = 96;
    private static final int MOST_MINUTES = 60;
    private static final int MOST_STEEP = 9;
    private static final int MOST_HOME = 9;
    private static final int LAST_DAY = 999;
    private static final int MOST_UNDONE = 10;
    private static final int MOST_SHOWN = 6;
    private static final int MOST_IMAGES = 2;
    private static final int MOST_IN_A_ROW = 5;
    private static final int TENTHS = 10;
    private static final int MOST_MORE = 20;

    private static final int LOST_BY_WILD = 2;
    private static final int FAULT_AT_START = -10;
    private static final int NOT_SO_MANY = -5;
    private static final int WAYS_MODULUS = 1000003;
    private static final long NOT_KEPT = -1;

    private static final int STEEP = 0, CALM = 1, WILD = 2, GOAL = 3, SETTINGS = 4;
    private static final int[] LEAST_SETTING = {1, 0, 21, 1};
    private static final int[] MOST_SETTING = {9, 20, 60, 96};
    private static final int[] FIRST_SETTING = {2, 5, 25, 48};

    private final Text text;
    private final Now today;
    private final Past past;
    private final Shown shown;
    private final Outlook outlook;
    private final long[] images;
    private Told told;
    private Told draft;
    private long asked;

    public DoorMornings() {
        text = new Text();
        today = new Now();
        past = new Past();
        shown = new Shown();
        outlook = new Outlook();
        images = new long[] {NOT_KEPT, NOT_KEPT};
        told = new Told();
        draft = new Told();
        asked = 0;
    }

    // ---- the nursery

    public int type(int letter) {
        if (letter < 0 || letter > 255) return BAD;
        return text.add(letter);
    }

    public int clear() {
        return text.empty();
    }

    public int nursery() {
        int items = text.tell(draft);
        if (items < 0) return items;
        Told before = told;
        told = draft;
        draft = before;
        text.empty();
        today.startAnew(told);
        past.empty();
        shown.empty();
        outlook.stands = false;
        for (int i = 0; i < MOST_IMAGES; i++) images[i] = NOT_KEPT;
        return items;
    }

    public int goodbye(int g, int what) {
        if (!told.hasGoodbye(g)) return BAD;
        switch (what) {
            case 0: return told.tearsOf(g);
            case 1: return told.gainOf(g);
            default: return BAD;
        }
    }

    public int woman(int w, int what) {
        if (!told.hasWoman(w)) return BAD;
        switch (what) {
            case 0: return today.likingOf(w);
            case 1: return today.isIll(w) ? 1 : 0;
            case 2: return bestGoodbye(w);
            default: return BAD;
        }
    }

    public int now(int what) {
        switch (what) {
            case 0: return today.day;
            case 1: return today.trust;
            case 2: return today.done ? 1 : 0;
            case 3: return bestWoman();
            case 4: return today.ill;
            case 5: return past.known;
            default: return BAD;
        }
    }

    // ---- what is done

    public int morning(int g, int length, int w) {
        if (!isMorning(g, length, w)) return BAD;
        if (today.isIll(w) || today.day >= LAST_DAY) return STATE;
        past.add(today.folded());
        int minutes = minutesNow(g, length, w);
        today.trust = told.trustAfter(g, today.trust, minutes);
        today.setLiking(w, told.likingAfter(today.likingOf(w), minutes));
        if (told.isCalm(minutes) && length >= told.setting(GOAL)) today.done = true;
        today.day++;
        return minutes;
    }

    public int home(int n) {
        if (n < 1 || n > MOST_HOME) return BAD;
        if (today.day + n > LAST_DAY) return STATE;
        past.add(today.folded());
        today.day += n;
        today.trust = Math.max(0, today.trust - n);
        return today.trust;
    }

    public int falls(int w, int is) {
        if (!told.hasWoman(w) || is < 0 || is > 1) return BAD;
        if (today.isIll(w) == (is == 1)) return STATE;
        past.add(today.folded());
        today.ill ^= 1 << w;
        return Integer.bitCount(today.ill);
    }

    public int undo() {
        if (past.known < 1) return STATE;
        today.unfold(past.takeLatest());
        return past.known;
    }

    // ---- mornings to come

    public int would(int g, int length, int w) {
        if (!isMorning(g, length, w)) return BAD;
        return minutesNow(g, length, w);
    }

    public int farthest(int g, int w) {
        if (!told.hasGoodbye(g) || !told.hasWoman(w)) return BAD;
        int reach = reachNow(g, w);
        return reach < 1 ? NONE : reach;
    }

    public int plan(int w, int k) {
        if (!told.hasWoman(w) || k < -1) return BAD;
        lookAhead();
        int mornings = outlook.fewestFrom(today.trust, today.likingOf(w));
        if (mornings < 1) return NONE;
        if (k == -1) return mornings;
        if (k >= mornings) return NOT_SO_MANY;
        return outlook.morningAt(told, today.trust, today.likingOf(w), k);
    }

    public int ways(int w) {
        if (!told.hasWoman(w)) return BAD;
        lookAhead();
        return outlook.rowsFrom(today.trust, today.likingOf(w));
    }

    public int setback(int g, int length, int w) {
        if (!isMorning(g, length, w)) return NO;
        lookAhead();
        int liking = today.likingOf(w);
        int minutes = minutesNow(g, length, w);
        int ahead = outlook.fewestFrom(today.trust, liking);
        int behind = outlook.fewestFrom(told.trustAfter(g, today.trust, minutes), told.likingAfter(liking, minutes));
        if (ahead < 1 || behind < 1) return NO;
        return behind - ahead;
    }

    public int odds(int g, int length, int w, int n, int x, int d, int what) {
        if (!isMorning(g, length, w) || n < 0 || n > MOST_IN_A_ROW) return BAD;
        if (x < 0 || x > TENTHS || d < 1 || d > MOST_MORE || what < 0 || what > 1) return BAD;
        int trust = today.trust;
        int liking = today.likingOf(w);
        int upper = 1;
        int lower = 1;
        // Only the row in which every MORNING is CALM counts, so TRUST and LIKING go one way alone.
        for (int i = 0; i < n; i++) {
            upper *= told.calmTenths(told.minutes(g, trust, length, liking), x, d);
            lower *= TENTHS;
            trust = told.calmerTrust(g, trust);
            liking = told.calmerLiking(liking);
        }
        return quotient(what == 0 ? upper : lower, greatestDivisor(upper, lower));
    }

    // ---- what he showed

    public int shows(int g, int trust, int length, int liking, int t) {
        if (!told.hasGoodbye(g) || trust < 0 || trust > MOST_TRUST || !isLength(length)) return BAD;
        if (liking < 0 || liking > MOST_LIKING || t < 0 || t > MOST_MINUTES) return BAD;
        return shown.add(told.tearsOf(g) - liking, beyondTrust(length, trust), t);
    }

    public int forget() {
        return shown.empty();
    }

    public int fits() {
        int bits = 0;
        for (int steep = 1; steep <= MOST_STEEP; steep++) {
            if (shown.isSoBy(steep)) bits |= 1 << steep;
        }
        return bits;
    }

    // ---- kinds, images

    public int rate(int kind, int g) {
        if (!told.hasGoodbye(g)) return NO;
        switch (kind) {
            case 0: return rateOfGoodbye(g);
            case 1: return rateOfSlow(g);
            case 2: return rateOfQuick(g);
            case 3: return rateOfWave(g);
            case 4: return rateOfUnseen(g);
            case 5: return rateOfKiss(g);
            default: return NO;
        }
    }

    public int keep(int image) {
        if (image < 0 || image >= MOST_IMAGES) return BAD;
        images[image] = today.folded();
        return today.day;
    }

    public int back(int image) {
        if (image < 0 || image >= MOST_IMAGES) return BAD;
        if (images[image] == NOT_KEPT) return STATE;
        today.unfold(images[image]);
        past.empty();
        return today.day;
    }

    public int count(int what) {
        switch (what) {
            case 0: return told.goodbyes;
            case 1: return told.women;
            case 2: return told.setting(STEEP);
            case 3: return told.setting(CALM);
            case 4: return told.setting(WILD);
            case 5: return told.setting(GOAL);
            case 6: return shown.size;
            case 7: return text.size;
            default: return BAD;
        }
    }

    public long trace() {
        return asked;
    }

    // ---- of these alone

    private static boolean isLength(int length) {
        return length >= 1 && length <= MOST_LENGTH;
    }

    private boolean isMorning(int g, int length, int w) {
        return told.hasGoodbye(g) && isLength(length) && told.hasWoman(w);
    }

    private int minutesNow(int g, int length, int w) {
        return told.minutes(g, today.trust, length, today.likingOf(w));
    }

    private int reachNow(int g, int w) {
        return told.reach(g, today.trust, today.likingOf(w));
    }

    private int bestGoodbye(int w) {
        int best = NONE;
        int farthestYet = 0;
        for (int g = 0; g < told.goodbyes; g++) {
            int reach = reachNow(g, w);
            boolean sameButGainsMore = reach == farthestYet && best != NONE && told.gainOf(g) > told.gainOf(best);
            if (reach > farthestYet || sameButGainsMore) {
                best = g;
                farthestYet = reach;
            }
        }
        return best;
    }

    private int bestWoman() {
        int best = NONE;
        int farthestYet = 0;
        for (int w = 0; w < told.women; w++) {
            int reach = today.isIll(w) ? 0 : farthestWith(w);
            if (reach > farthestYet) {
                best = w;
                farthestYet = reach;
            }
        }
        return best;
    }

    private int farthestWith(int w) {
        int farthestYet = 0;
        for (int g = 0; g < told.goodbyes; g++) farthestYet = Math.max(farthestYet, reachNow(g, w));
        return farthestYet;
    }

    private void lookAhead() {
        if (!outlook.stands) outlook.workOut(told);
    }

    private int rateOfGoodbye(int g) {
        asked += 1;
        return told.tearsOf(g);
    }

    private int rateOfSlow(int g) {
        asked += 10;
        return rateOfGoodbye(g) + told.gainOf(g);
    }

    private int rateOfQuick(int g) {
        asked += 100;
        return rateOfGoodbye(g) - today.trust;
    }

    private int rateOfWave(int g) {
        asked += 1000;
        return 2 * rateOfSlow(g);
    }

    private int rateOfUnseen(int g) {
        asked += 10000;
        return rateOfQuick(g) + g;
    }

    private int rateOfKiss(int g) {
        asked += 100000;
        return rateOfGoodbye(g) + today.day;
    }

    private static int beyondTrust(int length, int trust) {
        return Math.max(0, length - 2 * trust);
    }

    private static int withinMinutes(int minutes) {
        return Math.max(0, Math.min(MOST_MINUTES, minutes));
    }

    private static int quotient(int a, int b) {
        return b < 1 ? 0 : a / b;
    }

    private static int greatestDivisor(int a, int b) {
        int greater = a;
        int less = b;
        // Of numbers to 100000 it takes far fewer steps than 64.
        for (int i = 0; i < 64 && less != 0; i++) {
            int rest = greater % less;
            greater = less;
            less = rest;
        }
        return greater;
    }

    /** THE TEXT, and how it is read. */
    private static final class Text {
        final int[] letters = new int[MOST_LETTERS];
        int size = 0;
        int place = 0;
        int fault = 0;
        int settingsTold = 0;

        int add(int letter) {
            if (size < 0 || size >= MOST_LETTERS) return FULL;
            letters[size] = letter;
            size++;
            return size;
        }

        int empty() {
            int had = size;
            size = 0;
            return had;
        }

        /** Tells all to a Told of any content: how many ITEMS, or -10 less FAULT. */
        int tell(Told to) {
            to.startAnew();
            place = 0;
            settingsTold = 0;
            int items = 0;
            for (int i = 0; i <= MOST_LETTERS; i++) {
                skipBlanks();
                if (place >= size) break;
                if (!readItem(to)) return FAULT_AT_START - fault;
                items++;
            }
            return items;
        }

        int letterAt(int i) {
            return i >= 0 && i < size && i < MOST_LETTERS ? letters[i] : -1;
        }

        void skipBlanks() {
            while (place < size && letterAt(place) == ' ') place++;
        }

        boolean readItem(Told to) {
            switch (letterAt(place)) {
                case 'g': return readGoodbye(to);
                case 'w': return readWoman(to);
                case 's': return readSetting(to, STEEP);
                case 'c': return readSetting(to, CALM);
                case 'x': return readSetting(to, WILD);
                case 'z': return readSetting(to, GOAL);
                default: return failsAt(place);
            }
        }

        boolean readGoodbye(Told to) {
            if (to.goodbyes >= MOST_GOODBYES) return failsAt(place);
            place++;
            int tears = readNumber(0, MOST_TOLD_TEARS);
            if (tears < 0) return false;
            int gain = readNumber(0, MOST_GAIN);
            if (gain < 0) return false;
            to.addGoodbye(tears, gain);
            return readEnd();
        }

        boolean readWoman(Told to) {
            if (to.women >= MOST_WOMEN) return failsAt(place);
            place++;
            int liking = readNumber(0, MOST_LIKING);
            if (liking < 0) return false;
            to.addWoman(liking);
            return readEnd();
        }

        boolean readSetting(Told to, int which) {
            if (which < 0 || which >= SETTINGS || (settingsTold >> which & 1) == 1) return failsAt(place);
            place++;
            int value = readNumber(LEAST_SETTING[which], MOST_SETTING[which]);
            if (value < 0) return false;
            settingsTold |= 1 << which;
            to.setSetting(which, value);
            return readEnd();
        }

        /** -1: no NUMBER from least (0 or more) to most (99 or less) stands there. */
        int readNumber(int least, int most) {
            skipBlanks();
            int start = place;
            int value = 0;
            while (place < size && letterAt(place) >= '0' && letterAt(place) <= '9') {
                // Held at 100, so that a long row of digits stays too great.
                value = Math.min(100, value * 10 + letterAt(place) - '0');
                place++;
            }
            int digits = place - start;
            boolean zeroAhead = digits > 1 && letterAt(start) == '0';
            if (digits < 1 || zeroAhead || value < least || value > most) {
                failsAt(start);
                return -1;
            }
            return value;
        }

        boolean readEnd() {
            skipBlanks();
            if (letterAt(place) != ';') return failsAt(place);
            place++;
            return true;
        }

        /** Where the text ends too early, the place is its length. */
        boolean failsAt(int where) {
            fault = where;
            return false;
        }
    }

    /** What THE TEXT told, and how he cries by it. */
    private static final class Told {
        final int[] tears = new int[MOST_GOODBYES];
        final int[] gains = new int[MOST_GOODBYES];
        final int[] likings = new int[MOST_WOMEN];
        final int[] settings = FIRST_SETTING.clone();
        int goodbyes = 0;
        int women = 0;

        void startAnew() {
            goodbyes = 0;
            women = 0;
            for (int i = 0; i < SETTINGS; i++) settings[i] = FIRST_SETTING[i];
        }

        void addGoodbye(int itsTears, int itsGain) {
            if (goodbyes < 0 || goodbyes >= MOST_GOODBYES) return;
            tears[goodbyes] = itsTears;
            gains[goodbyes] = itsGain;
            goodbyes++;
        }

        void addWoman(int liking) {
            if (women < 0 || women >= MOST_WOMEN) return;
            likings[women] = liking;
            women++;
        }

        void setSetting(int which, int value) {
            if (which >= 0 && which < SETTINGS) settings[which] = value;
        }

        boolean hasGoodbye(int g) {
            return g >= 0 && g < goodbyes && g < MOST_GOODBYES;
        }

        boolean hasWoman(int w) {
            return w >= 0 && w < women && w < MOST_WOMEN;
        }

        int tearsOf(int g) {
            return hasGoodbye(g) ? tears[g] : 0;
        }

        int gainOf(int g) {
            return hasGoodbye(g) ? gains[g] : 0;
        }

        int likingAtFirst(int w) {
            return hasWoman(w) ? likings[w] : 0;
        }

        int setting(int which) {
            return which >= 0 && which < SETTINGS ? settings[which] : 0;
        }

        int minutes(int g, int trust, int length, int liking) {
            return withinMinutes(tearsOf(g) + setting(STEEP) * beyondTrust(length, trust) - liking);
        }

        boolean isCalm(int minutes) {
            return minutes <= setting(CALM);
        }

        boolean isWild(int minutes) {
            return minutes >= setting(WILD);
        }

        int trustAfter(int g, int trust, int minutes) {
            if (isCalm(minutes)) return calmerTrust(g, trust);
            return isWild(minutes) ? Math.max(0, trust - LOST_BY_WILD) : trust;
        }

        int likingAfter(int liking, int minutes) {
            if (isCalm(minutes)) return calmerLiking(liking);
            return isWild(minutes) ? Math.max(0, liking - 1) : liking;
        }

        int calmerTrust(int g, int trust) {
            return Math.min(MOST_TRUST, trust + gainOf(g));
        }

        int calmerLiking(int liking) {
            return Math.min(MOST_LIKING, liking + 1);
        }

        /** The greatest LENGTH that is CALM, 0 if none is: he never cries less by a greater one. */
        int reach(int g, int trust, int liking) {
            int spare = setting(CALM) + liking - tearsOf(g);
            if (spare < 0) return 0;
            return Math.min(MOST_LENGTH, 2 * trust + quotient(spare, setting(STEEP)));
        }

        /** In how many of ten MORNINGS he is CALM, if in x of them he cries d more. */
        int calmTenths(int minutes, int x, int d) {
            int asEver = isCalm(minutes) ? TENTHS - x : 0;
            int byMore = isCalm(Math.min(MOST_MINUTES, minutes + d)) ? x : 0;
            return asEver + byMore;
        }
    }

    /** What changes by the day. */
    private static final class Now {
        final int[] likings = new int[MOST_WOMEN];
        int day = 0;
        int trust = 0;
        int ill = 0;
        boolean done = false;

        void startAnew(Told told) {
            for (int w = 0; w < MOST_WOMEN; w++) likings[w] = told.likingAtFirst(w);
            day = 0;
            trust = 0;
            ill = 0;
            done = false;
        }

        int likingOf(int w) {
            return w >= 0 && w < MOST_WOMEN ? likings[w] : 0;
        }

        void setLiking(int w, int liking) {
            if (w >= 0 && w < MOST_WOMEN) likings[w] = liking;
        }

        boolean isIll(int w) {
            return (ill >> w & 1) == 1;
        }

        /** All of it as one number, 0 or more, so that what is kept needs no objects. */
        long folded() {
            long all = day;
            all = all << 5 | trust;
            for (int w = 0; w < MOST_WOMEN; w++) all = all << 4 | likings[w];
            all = all << 4 | ill;
            return all << 1 | (done ? 1 : 0);
        }

        void unfold(long all) {
            done = (all & 1) == 1;
            ill = (int) (all >> 1 & 15);
            long rest = all >> 5;
            for (int w = MOST_WOMEN - 1; w >= 0; w--) {
                likings[w] = (int) (rest & 15);
                rest >>= 4;
            }
            trust = (int) (rest & 31);
            day = (int) (rest >> 5);
        }
    }

    /** What can be UNDONE, the latest last. */
    private static final class Past {
        final long[] befores = new long[MOST_UNDONE];
        int known = 0;

        void add(long before) {
            if (known >= MOST_UNDONE) loseOldest();
            if (known < 0 || known >= MOST_UNDONE) return;
            befores[known] = before;
            known++;
        }

        void loseOldest() {
            for (int i = 1; i < MOST_UNDONE; i++) befores[i - 1] = befores[i];
            known = MOST_UNDONE - 1;
        }

        long takeLatest() {
            if (known < 1 || known > MOST_UNDONE) return 0;
            known--;
            return befores[known];
        }

        void empty() {
            known = 0;
        }
    }

    /** What he showed: of each, all that does not hang on STEEP is worked out at once. */
    private static final class Shown {
        final int[] tearsLessLiking = new int[MOST_SHOWN];
        final int[] beyond = new int[MOST_SHOWN];
        final int[] minutes = new int[MOST_SHOWN];
        int size = 0;

        int add(int itsTearsLessLiking, int itsBeyond, int itsMinutes) {
            if (size < 0 || size >= MOST_SHOWN) return FULL;
            tearsLessLiking[size] = itsTearsLessLiking;
            beyond[size] = itsBeyond;
            minutes[size] = itsMinutes;
            size++;
            return size;
        }

        int empty() {
            int had = size;
            size = 0;
            return had;
        }

        boolean isSoBy(int steep) {
            for (int i = 0; i < size && i < MOST_SHOWN; i++) {
                if (withinMinutes(tearsLessLiking[i] + steep * beyond[i]) != minutes[i]) return false;
            }
            return true;
        }
    }

    /**
     * The PLANS from every TRUST and LIKING, which hang on nothing else that changes by the day.
     * More TRUST or LIKING never makes a PLAN longer, so one of fewest MORNINGS has CALM ones alone:
     * any other would leave him where he was, or lower. And a CALM one goes up or stays where it is,
     * so what is reached from a place stands before it is asked for, if the places are worked out downwards.
     * By that a PLAN has 34 MORNINGS at most: the 60 of the document are never met.
     */
    private static final class Outlook {
        static final int LIKINGS = MOST_LIKING + 1;
        static final int PLACES = (MOST_TRUST + 1) * LIKINGS;

        /** 0: there is no PLAN. */
        final int[] fewest = new int[PLACES];
        final int[] rows = new int[PLACES];
        final int[] firstGoodbye = new int[PLACES];
        boolean stands = false;

        static int placeOf(int trust, int liking) {
            return trust * LIKINGS + liking;
        }

        static boolean isPlace(int place) {
            return place >= 0 && place < PLACES;
        }

        int fewestAt(int place) {
            return isPlace(place) ? fewest[place] : 0;
        }

        int rowsAt(int place) {
            return isPlace(place) ? rows[place] : 0;
        }

        int fewestFrom(int trust, int liking) {
            return fewestAt(placeOf(trust, liking));
        }

        int rowsFrom(int trust, int liking) {
            return rowsAt(placeOf(trust, liking));
        }

        void workOut(Told told) {
            for (int trust = MOST_TRUST; trust >= 0; trust--) {
                for (int liking = MOST_LIKING; liking >= 0; liking--) workOutFrom(told, trust, liking);
            }
            stands = true;
        }

        void workOutFrom(Told told, int trust, int liking) {
            int place = placeOf(trust, liking);
            if (!isPlace(place)) return;
            // Emptied first: a MORNING that stays at this place must find no PLAN of an older text here.
            fewest[place] = 0;
            rows[place] = 0;
            int goal = told.setting(GOAL);
            for (int g = 0; g < told.goodbyes; g++) {
                int reach = told.reach(g, trust, liking);
                if (reach >= goal) {
                    offer(place, g, 1, reach - goal + 1);
                } else if (reach >= 1) {
                    int next = placeOf(told.calmerTrust(g, trust), told.calmerLiking(liking));
                    if (next != place && fewestAt(next) > 0) offer(place, g, fewestAt(next) + 1, reach * rowsAt(next));
                }
            }
        }

        void offer(int place, int g, int mornings, int ways) {
            if (!isPlace(place)) return;
            if (fewest[place] == 0 || mornings < fewest[place]) {
                fewest[place] = mornings;
                rows[place] = ways % WAYS_MODULUS;
                firstGoodbye[place] = g;
            } else if (mornings == fewest[place]) {
                rows[place] = (rows[place] + ways) % WAYS_MODULUS;
            }
        }

        /** The k-th MORNING of the PLAN: all but the last are CALM by a LENGTH of 1 already. */
        int morningAt(Told told, int trust, int liking, int k) {
            int place = placeOf(trust, liking);
            int trustThen = trust;
            int likingThen = liking;
            for (int i = 0; i < k && isPlace(place); i++) {
                trustThen = told.calmerTrust(firstGoodbye[place], trustThen);
                likingThen = told.calmerLiking(likingThen);
                place = placeOf(trustThen, likingThen);
            }
            if (!isPlace(place)) return NOT_SO_MANY;
            return 100 * firstGoodbye[place] + (fewest[place] == 1 ? told.setting(GOAL) : 1);
        }
    }
}
