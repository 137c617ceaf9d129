/**
 * An office that audits prophets forward: days, laws, inspectors and their marks, and what
 * follows from them. The promises are in DOC.md; a call never throws.
 *
 * A mark speaks of one day alone and a law of two days in a row, so nothing here goes through
 * all worlds one by one: they are summed from day to day (see Ways).
 */
public final class ProphetAudit {

    public static final int NONE = -1, BAD = -2, NO = -3, FULL = -4;

    private static final int DAYS = 6, EVENTS = 4, KINDS = 6, MARK_VALUES = 3, TRIPS_TOLD = 10;
    private static final int PLACES = DAYS * EVENTS;
    private static final int ALL_DAYS = 63, ALL_EVENTS = 15, ALL_MARKS = 255;
    private static final int MOST_INSPECTORS = 4, MOST_MARKS = 8, MOST_UNDOS = 8;
    private static final int MOST_TEXT = 150, MOST_BYTE = 127;
    private static final int MOST_SAYINGS = 9;
    private static final int MOST_SEED = 999999, MOST_YEARS = 60;
    private static final int ODDS = 10;
    private static final int COUNTS = 6;

    /** The kinds that give other marks than a plain one (0), whose mark is the truth. */
    private static final int BROWN = 1, OLD = 2, COY = 3, TIRED = 4, SUNNY = 5;
    private static final int NOT_TRUE = 0, TRUE = 1, NOTHING = 2;

    /** BAD of known and bets, whose answers may be negative anyway. */
    private static final int BAD_TOO = -10;
    private static final int NOT_SO_MANY = -5;
    /** What read answers for a fault at place 0. */
    private static final int FIRST_FAULT = -10;

    /** Sets of events (bit s for the set s) that have one event at most. */
    private static final int SINGLES = 1 | 1 << 1 | 1 << 2 | 1 << 4 | 1 << 8;

    private final Office now;
    /** What is tried out first: a text that is read, an inspector of another kind. */
    private final Office spare;
    private final Office firstImage;
    private final Office secondImage;
    private boolean firstKept;
    private boolean secondKept;
    private final Text text;
    private final Reader reader;
    private final Ways ways;
    private long above;
    private long below;
    private int refusedBad;
    private int refusedNo;
    private int refusedFull;

    public ProphetAudit() {
        now = new Office();
        spare = new Office();
        firstImage = new Office();
        secondImage = new Office();
        text = new Text();
        reader = new Reader();
        ways = new Ways();
        above = 0;
        below = 1;
    }

    // ---- an office

    public int office() {
        int were = now.inspectors;
        now.reset();
        return were;
    }

    public int never(int a, int b) {
        if (!isEvent(a) || !isEvent(b)) {
            return refuseBad();
        }
        now.addLaw(a, b);
        now.undos = 0;
        return Integer.bitCount(now.laws);
    }

    public int one(int kind, int trips) {
        if (kind < 0 || kind >= KINDS || trips < 0 || trips >= TRIPS_TOLD) {
            return refuseBad();
        }
        if (now.inspectors >= MOST_INSPECTORS) {
            return refuseFull();
        }
        now.addInspector(kind, trips);
        now.undos = 0;
        return now.inspectors - 1;
    }

    public int type(int c) {
        if (c < 0 || c > MOST_BYTE) {
            return refuseBad();
        }
        if (text.length >= MOST_TEXT) {
            return refuseFull();
        }
        text.append(c);
        return text.length;
    }

    public int clear() {
        int had = text.length;
        text.length = 0;
        return had;
    }

    public int read() {
        int answer = reader.makeOffice(text, spare);
        if (answer > 0) {
            spare.undos = 0;
            now.copyFrom(spare);
        }
        return answer;
    }

    // ---- marks

    public int mark(int i, int d, int events, int m) {
        if (!isAsked(i, d, events, m)) {
            return refuseBad();
        }
        if (now.marks >= MOST_MARKS) {
            return refuseFull();
        }
        now.addMark(i, d, events, m);
        return now.marks;
    }

    public int known(int d, int e) {
        if (!isDay(d) || e != NONE && !isEvent(e)) {
            refuseBad();
            return BAD_TOO;
        }
        int was = now.knownEvent[d];
        now.learn(d, e);
        return was;
    }

    public int undo() {
        if (now.undos <= 0) {
            return refuseNo();
        }
        now.takeBack();
        return now.marks;
    }

    public int of(int i, int what) {
        if (!isInspector(i) || what < 0 || what > 1) {
            return refuseBad();
        }
        return what == 0 ? now.kind[i] : now.trips[i];
    }

    // ---- worlds

    public int worlds() {
        sumFits();
        return (int) ways.all();
    }

    public int may(int d) {
        if (!isDay(d)) {
            return refuseBad();
        }
        sumFits();
        return ways.eventsOn(d);
    }

    public int chance(int d, int e) {
        if (!isDay(d) || !isEvent(e)) {
            return refuseBad();
        }
        sumFits();
        long all = ways.all();
        if (all == 0) {
            return refuseNo();
        }
        setFraction(ways.having(d, e), all);
        return 1;
    }

    public int must() {
        sumFits();
        if (ways.all() == 0) {
            return ALL_DAYS;
        }
        int days = 0;
        for (int d = 0; d < DAYS; d++) {
            if (Integer.bitCount(ways.eventsOn(d)) == 1) {
                days |= 1 << d;
            }
        }
        return days;
    }

    public int ruled(int d) {
        if (!isDay(d)) {
            return refuseBad();
        }
        ways.weighFits(now, ALL_MARKS);
        ways.sum(now);
        return ALL_EVENTS & ~ways.eventsOn(d);
    }

    public int gives(int i, int d, int events, int m) {
        if (!isAsked(i, d, events, m)) {
            return refuseBad();
        }
        sumFits();
        int fit = 0;
        for (int e = 0; e < EVENTS; e++) {
            if (given(now.kind[i], truth(events, e), d, events, now.trips[i]) == m) {
                fit += (int) ways.having(d, e);
            }
        }
        return fit;
    }

    public int next(int i) {
        if (!isInspector(i)) {
            return refuseBad();
        }
        sumFits();
        long all = ways.all();
        if (all == 0) {
            return NONE;
        }
        int best = NONE;
        long fewest = all + 1;
        for (int d = 0; d < DAYS; d++) {
            for (int events = 1; events < ALL_EVENTS; events++) {
                long most = mostAlike(i, d, events, all);
                if (most < fewest) {
                    fewest = most;
                    best = 16 * d + events;
                }
            }
        }
        return best;
    }

    public int sure(int i, int d, int what) {
        if (!isInspector(i) || !isDay(d) || what < 0 || what > 1) {
            return refuseBad();
        }
        sumFits();
        if (ways.all() == 0) {
            return NONE;
        }
        int events = ways.eventsOn(d);
        int sayings = fewestSayings(i, d, events);
        if (what == 0 || sayings == NONE) {
            return sayings;
        }
        return sayings == 0 ? 0 : firstSaying(i, d, events, sayings);
    }

    public int wrong() {
        ways.weighMissed(now);
        long least = ways.leastSum(now);
        return least >= Ways.UNREACHED ? NONE : (int) least & ALL_MARKS;
    }

    public int is(int i) {
        if (!isInspector(i)) {
            return refuseBad();
        }
        spare.copyFrom(now);
        int kinds = 0;
        for (int k = 0; k < KINDS; k++) {
            spare.kind[i] = k;
            ways.weighFits(spare, 0);
            ways.sum(spare);
            if (ways.all() > 0) {
                kinds |= 1 << k;
            }
        }
        return kinds;
    }

    public int tells() {
        sumFits();
        long all = ways.all();
        int telling = 0;
        for (int j = 0; j < now.marks; j++) {
            ways.weighFits(now, 1 << j);
            ways.sum(now);
            if (ways.all() > all) {
                telling |= 1 << j;
            }
        }
        return telling;
    }

    public int bets(int d, int k) {
        if (!isDay(d) || k < NONE) {
            refuseBad();
            return BAD_TOO;
        }
        sumFits();
        int found = 0;
        for (int pair = 0; pair < EVENTS * EVENTS; pair++) {
            if (rests(d, pair / EVENTS, pair % EVENTS)) {
                if (found == k) {
                    return pair;
                }
                found++;
            }
        }
        return k == NONE ? found : NOT_SO_MANY;
    }

    public int journeys(int c) {
        if (c < 0 || c > ODDS) {
            return refuseBad();
        }
        ways.weighOdds(now, c);
        ways.sum(now);
        long outcomes = 1;
        for (int j = 0; j < now.marks; j++) {
            outcomes *= ODDS;
        }
        setFraction(ways.all(), outcomes);
        return 1;
    }

    public int years(int seed, int n) {
        if (seed < 0 || seed > MOST_SEED || n < 0 || n > MOST_YEARS) {
            return refuseBad();
        }
        ways.weighFits(now, 0);
        long x = seed;
        int fit = 0;
        for (int year = 0; year < n; year++) {
            boolean fits = true;
            int last = NONE;
            for (int d = 0; d < DAYS; d++) {
                x = drawn(x);
                int event = (int) (x / 65536 % EVENTS);
                fits = fits && ways.goesOn(now, d, last, event);
                last = event;
            }
            if (fits) {
                fit++;
            }
        }
        return fit;
    }

    // ---- what there is

    public long part(int what) {
        if (what < 0 || what > 1) {
            return refuseBad();
        }
        return what == 0 ? above : below;
    }

    public int image(int i) {
        if (!isImage(i)) {
            return refuseBad();
        }
        if (i == 0) {
            firstImage.copyFrom(now);
            firstKept = true;
        } else {
            secondImage.copyFrom(now);
            secondKept = true;
        }
        return 1;
    }

    public int from(int i) {
        if (!isImage(i)) {
            return refuseBad();
        }
        if (i == 0 ? !firstKept : !secondKept) {
            return refuseNo();
        }
        now.copyFrom(i == 0 ? firstImage : secondImage);
        return 1;
    }

    public int status(int what) {
        switch (what) {
            case 0:
                return refusedBad;
            case 1:
                return refusedNo;
            case 2:
                return refusedFull;
            default:
                refuseBad();
                return NONE;
        }
    }

    public int count(int what) {
        if (what < 0 || what >= COUNTS) {
            return refuseBad();
        }
        return howMany(what);
    }

    public long digest() {
        long h = 1291;
        for (int what = 0; what < COUNTS; what++) {
            h = 31 * h + howMany(what);
        }
        h = now.digestOn(h);
        h = 31 * h + above;
        return 31 * h + below;
    }

    // ---- what a number must be

    private static boolean isDay(int d) {
        return d >= 0 && d < DAYS;
    }

    private static boolean isEvent(int e) {
        return e >= 0 && e < EVENTS;
    }

    private static boolean isImage(int i) {
        return i == 0 || i == 1;
    }

    private boolean isInspector(int i) {
        return i >= 0 && i < now.inspectors && i < MOST_INSPECTORS;
    }

    private boolean isAsked(int i, int d, int events, int m) {
        return isInspector(i) && isDay(d) && events >= 1 && events < ALL_EVENTS
                && m >= 0 && m < MARK_VALUES;
    }

    // ---- what was refused

    private int refuseBad() {
        refusedBad++;
        return BAD;
    }

    private int refuseNo() {
        refusedNo++;
        return NO;
    }

    private int refuseFull() {
        refusedFull++;
        return FULL;
    }

    // ---- numbers

    private int howMany(int what) {
        switch (what) {
            case 0:
                return now.inspectors;
            case 1:
                return Integer.bitCount(now.laws);
            case 2:
                return now.marks;
            case 3:
                return now.knownDays();
            case 4:
                return now.undos;
            default:
                return text.length;
        }
    }

    private void setFraction(long up, long down) {
        long common = commonDivisor(up, down);
        if (common > 0) {
            above = up / common;
            below = down / common;
        }
    }

    private static long commonDivisor(long a, long b) {
        long x = a;
        long y = b;
        // 92 steps are enough for any two longs.
        for (int step = 0; step < 100 && y != 0; step++) {
            long rest = x % y;
            x = y;
            y = rest;
        }
        return x;
    }

    private static long drawn(long x) {
        return (x * 1103515245L + 12345L) % 2147483648L;
    }

    // ---- inspectors and their marks

    private static int truth(int events, int event) {
        return (events >> event & 1) == 1 ? TRUE : NOT_TRUE;
    }

    /** The mark that one of this kind gives to a saying, by its truth. */
    private static int given(int kind, int truth, int day, int events, int trips) {
        switch (kind) {
            case BROWN:
                return day >= 4 ? TRUE : truth;
            case OLD:
                return oldGiven(truth, day);
            case COY:
                return coyGiven(truth);
            case TIRED:
                return trips >= 3 ? NOTHING : oldGiven(truth, day);
            case SUNNY:
                return Integer.bitCount(events) == 3 ? TRUE : coyGiven(truth);
            default:
                return truth;
        }
    }

    private static int oldGiven(int truth, int day) {
        return day % 2 == 1 ? NOTHING : truth;
    }

    private static int coyGiven(int truth) {
        return 1 - truth;
    }

    /** Whether the mark tells a true saying from another. */
    private static boolean tellsTruth(int kind, int day, int events, int trips) {
        return given(kind, TRUE, day, events, trips) != given(kind, NOT_TRUE, day, events, trips);
    }

    // ---- questions about the worlds that fit

    private void sumFits() {
        ways.weighFits(now, 0);
        ways.sum(now);
    }

    /** How many of the fitting worlds have the mark in common that most of them have. */
    private long mostAlike(int i, int day, int events, long all) {
        if (!tellsTruth(now.kind[i], day, events, now.trips[i])) {
            return all;
        }
        long isTrue = 0;
        for (int e = 0; e < EVENTS; e++) {
            if (truth(events, e) == TRUE) {
                isTrue += ways.having(day, e);
            }
        }
        return Math.max(isTrue, all - isTrue);
    }

    private int fewestSayings(int i, int day, int events) {
        for (int n = 0; n <= MOST_SAYINGS; n++) {
            int apart = toldApart(now.kind[i], day, now.trips[i], n);
            if ((apart >> events & 1) == 1) {
                return n;
            }
        }
        return NONE;
    }

    private int firstSaying(int i, int day, int events, int sayings) {
        int trips = now.trips[i];
        int apart = toldApart(now.kind[i], day, trips + 1, sayings - 1);
        int telling = tellingSayings(now.kind[i], day, trips);
        for (int said = 1; said < ALL_EVENTS; said++) {
            if (leavesApart(events, said, telling, apart)) {
                return said;
            }
        }
        return NONE;
    }

    /**
     * The sets of events (bit s for the set s) of which n sayings, put in from these trips on,
     * always leave one event at most. The last saying is looked at first.
     */
    private static int toldApart(int kind, int day, int trips, int n) {
        int apart = SINGLES;
        for (int step = n - 1; step >= 0; step--) {
            int telling = tellingSayings(kind, day, trips + step);
            int more = 0;
            for (int events = 0; events <= ALL_EVENTS; events++) {
                if (isApartBySome(events, telling, apart)) {
                    more |= 1 << events;
                }
            }
            apart = more;
        }
        return apart;
    }

    private static boolean isApartBySome(int events, int telling, int apart) {
        for (int said = 1; said < ALL_EVENTS; said++) {
            if (leavesApart(events, said, telling, apart)) {
                return true;
            }
        }
        return false;
    }

    /** Whether all that a saying may leave of these events is among the sets told apart. */
    private static boolean leavesApart(int events, int said, int telling, int apart) {
        if ((telling >> said & 1) == 0) {
            return (apart >> events & 1) == 1;
        }
        return (apart >> (events & said) & 1) == 1 && (apart >> (events & ~said) & 1) == 1;
    }

    /** The sayings (bit s for the events s) whose mark tells something at this trip. */
    private static int tellingSayings(int kind, int day, int trips) {
        int telling = 0;
        for (int said = 1; said < ALL_EVENTS; said++) {
            if (tellsTruth(kind, day, said, trips)) {
                telling |= 1 << said;
            }
        }
        return telling;
    }

    private boolean rests(int day, int mine, int yours) {
        for (int e = 0; e < EVENTS; e++) {
            if (gain(day, e, yours) > gain(day, mine, yours)
                    || gain(day, e, mine) > gain(day, yours, mine)) {
                return false;
            }
        }
        return true;
    }

    private long gain(int day, int bet, int other) {
        long fit = ways.having(day, bet);
        return bet == other ? fit / 2 : fit;
    }

    /** All that an image keeps: laws, known events, inspectors, marks, what may be undone. */
    private static final class Office {

        /** Stands for the day in what may be undone, where a mark came. */
        static final int A_MARK = -1;

        /** Bit 4 a + b: event b never comes on the day behind one of event a. */
        int laws;
        final int[] knownEvent = new int[DAYS];
        final int[] kind = new int[MOST_INSPECTORS];
        final int[] trips = new int[MOST_INSPECTORS];
        int inspectors;
        final int[] markInspector = new int[MOST_MARKS];
        final int[] markDay = new int[MOST_MARKS];
        final int[] markEvents = new int[MOST_MARKS];
        final int[] markValue = new int[MOST_MARKS];
        final int[] markTrips = new int[MOST_MARKS];
        int marks;
        final int[] undoDay = new int[MOST_UNDOS];
        final int[] undoEvent = new int[MOST_UNDOS];
        int undos;

        Office() {
            reset();
        }

        void reset() {
            for (int d = 0; d < DAYS; d++) {
                knownEvent[d] = NONE;
            }
            laws = 0;
            inspectors = 0;
            marks = 0;
            undos = 0;
        }

        void copyFrom(Office other) {
            System.arraycopy(other.knownEvent, 0, knownEvent, 0, DAYS);
            System.arraycopy(other.kind, 0, kind, 0, MOST_INSPECTORS);
            System.arraycopy(other.trips, 0, trips, 0, MOST_INSPECTORS);
            System.arraycopy(other.markInspector, 0, markInspector, 0, MOST_MARKS);
            System.arraycopy(other.markDay, 0, markDay, 0, MOST_MARKS);
            System.arraycopy(other.markEvents, 0, markEvents, 0, MOST_MARKS);
            System.arraycopy(other.markValue, 0, markValue, 0, MOST_MARKS);
            System.arraycopy(other.markTrips, 0, markTrips, 0, MOST_MARKS);
            System.arraycopy(other.undoDay, 0, undoDay, 0, MOST_UNDOS);
            System.arraycopy(other.undoEvent, 0, undoEvent, 0, MOST_UNDOS);
            laws = other.laws;
            inspectors = other.inspectors;
            marks = other.marks;
            undos = other.undos;
        }

        boolean isLaw(int a, int b) {
            return (laws >> EVENTS * a + b & 1) == 1;
        }

        void addLaw(int a, int b) {
            laws |= 1 << EVENTS * a + b;
        }

        void addInspector(int kindToldOf, int tripsTold) {
            if (inspectors < MOST_INSPECTORS) {
                kind[inspectors] = kindToldOf;
                trips[inspectors] = tripsTold;
                inspectors++;
            }
        }

        void addMark(int inspector, int day, int events, int value) {
            if (marks < MOST_MARKS) {
                remember(A_MARK, NONE);
                markInspector[marks] = inspector;
                markDay[marks] = day;
                markEvents[marks] = events;
                markValue[marks] = value;
                markTrips[marks] = trips[inspector];
                trips[inspector]++;
                marks++;
            }
        }

        void learn(int day, int event) {
            remember(day, knownEvent[day]);
            knownEvent[day] = event;
        }

        int knownDays() {
            int days = 0;
            for (int d = 0; d < DAYS; d++) {
                if (knownEvent[d] != NONE) {
                    days++;
                }
            }
            return days;
        }

        void remember(int day, int event) {
            if (undos >= MOST_UNDOS) {
                forgetOldest();
            }
            undoDay[undos] = day;
            undoEvent[undos] = event;
            undos++;
        }

        void forgetOldest() {
            for (int n = 1; n < MOST_UNDOS; n++) {
                undoDay[n - 1] = undoDay[n];
                undoEvent[n - 1] = undoEvent[n];
            }
            undos = MOST_UNDOS - 1;
        }

        void takeBack() {
            if (undos > 0) {
                undos--;
                int day = undoDay[undos];
                if (isDay(day)) {
                    knownEvent[day] = undoEvent[undos];
                } else {
                    dropLastMark();
                }
            }
        }

        void dropLastMark() {
            if (marks > 0) {
                marks--;
                trips[markInspector[marks]] = markTrips[marks];
            }
        }

        boolean allows(int day, int event) {
            return knownEvent[day] == NONE || knownEvent[day] == event;
        }

        /** The marks (bits) of this day that would not be so, had the day this event. */
        int missed(int day, int event) {
            int bits = 0;
            for (int j = 0; j < marks; j++) {
                if (markDay[j] == day && markBy(j, event) != markValue[j]) {
                    bits |= 1 << j;
                }
            }
            return bits;
        }

        int markBy(int j, int event) {
            int events = markEvents[j];
            return given(kind[markInspector[j]], truth(events, event), markDay[j], events,
                    markTrips[j]);
        }

        int marksOf(int day) {
            int found = 0;
            for (int j = 0; j < marks; j++) {
                if (markDay[j] == day) {
                    found++;
                }
            }
            return found;
        }

        long digestOn(long begun) {
            long h = begun;
            for (int n = 0; n < EVENTS * EVENTS; n++) {
                h = 31 * h + (laws >> n & 1);
            }
            for (int d = 0; d < DAYS; d++) {
                h = 31 * h + knownEvent[d];
            }
            for (int i = 0; i < inspectors; i++) {
                h = 31 * h + kind[i];
                h = 31 * h + trips[i];
            }
            for (int j = 0; j < marks; j++) {
                h = 31 * h + markInspector[j];
                h = 31 * h + markDay[j];
                h = 31 * h + markEvents[j];
                h = 31 * h + markValue[j];
                h = 31 * h + markTrips[j];
            }
            return h;
        }
    }

    /**
     * Sums over all worlds that keep the laws. A place is a day with an event; each place has a
     * weight, and a world weighs the product of its places' weights (for leastSum: their sum).
     */
    private static final class Ways {

        /** Above every sum of weights that weighMissed gives along a world. */
        static final long UNREACHED = 1L << 20;

        final long[] weight = new long[PLACES];
        /** The sum over all ways that end at a place, with its own weight. */
        final long[] upTo = new long[PLACES];
        /** The sum over all ways that go on behind a place, without its own weight. */
        final long[] behind = new long[PLACES];

        static int place(int day, int event) {
            return EVENTS * day + event;
        }

        /** 1 where known events and marks allow it, else 0; lost marks are not looked at. */
        void weighFits(Office office, int lost) {
            for (int d = 0; d < DAYS; d++) {
                for (int e = 0; e < EVENTS; e++) {
                    boolean fits = office.allows(d, e) && (office.missed(d, e) & ~lost) == 0;
                    weight[place(d, e)] = fits ? 1 : 0;
                }
            }
        }

        /** By how many of the ten to each mark a place fits, when odds of ten lose a mark. */
        void weighOdds(Office office, int odds) {
            for (int d = 0; d < DAYS; d++) {
                for (int e = 0; e < EVENTS; e++) {
                    int missed = Integer.bitCount(office.missed(d, e));
                    int marks = office.marksOf(d);
                    long product = office.allows(d, e) ? 1 : 0;
                    for (int n = 0; n < marks; n++) {
                        product *= n < missed ? odds : ODDS;
                    }
                    weight[place(d, e)] = product;
                }
            }
        }

        /** How many marks a place misses, above which ones: no mark is of two days. */
        void weighMissed(Office office) {
            for (int d = 0; d < DAYS; d++) {
                for (int e = 0; e < EVENTS; e++) {
                    int missed = office.missed(d, e);
                    long cost = (ALL_MARKS + 1L) * Integer.bitCount(missed) + missed;
                    weight[place(d, e)] = office.allows(d, e) ? cost : UNREACHED;
                }
            }
        }

        void sum(Office office) {
            for (int e = 0; e < EVENTS; e++) {
                upTo[place(0, e)] = weight[place(0, e)];
                behind[place(DAYS - 1, e)] = 1;
            }
            for (int d = 1; d < DAYS; d++) {
                for (int e = 0; e < EVENTS; e++) {
                    upTo[place(d, e)] = weight[place(d, e)] * sumBefore(office, d, e);
                }
            }
            for (int d = DAYS - 2; d >= 0; d--) {
                for (int e = 0; e < EVENTS; e++) {
                    behind[place(d, e)] = sumBehind(office, d, e);
                }
            }
        }

        private long sumBefore(Office office, int day, int event) {
            long sum = 0;
            for (int a = 0; a < EVENTS; a++) {
                if (!office.isLaw(a, event)) {
                    sum += upTo[place(day - 1, a)];
                }
            }
            return sum;
        }

        private long sumBehind(Office office, int day, int event) {
            long sum = 0;
            for (int b = 0; b < EVENTS; b++) {
                if (!office.isLaw(event, b)) {
                    sum += weight[place(day + 1, b)] * behind[place(day + 1, b)];
                }
            }
            return sum;
        }

        long all() {
            long sum = 0;
            for (int e = 0; e < EVENTS; e++) {
                sum += upTo[place(DAYS - 1, e)];
            }
            return sum;
        }

        /** The sum over the worlds that have the event on the day. */
        long having(int day, int event) {
            return upTo[place(day, event)] * behind[place(day, event)];
        }

        int eventsOn(int day) {
            int events = 0;
            for (int e = 0; e < EVENTS; e++) {
                if (having(day, e) > 0) {
                    events |= 1 << e;
                }
            }
            return events;
        }

        /** Whether a world that has the last event on the day ahead may go on with this one. */
        boolean goesOn(Office office, int day, int last, int event) {
            boolean lawful = day == 0 || last == NONE || !office.isLaw(last, event);
            return lawful && weight[place(day, event)] > 0;
        }

        /** The least sum of weights along a world; UNREACHED or more, if there is no world. */
        long leastSum(Office office) {
            for (int e = 0; e < EVENTS; e++) {
                upTo[place(0, e)] = weight[place(0, e)];
            }
            for (int d = 1; d < DAYS; d++) {
                for (int e = 0; e < EVENTS; e++) {
                    upTo[place(d, e)] = weight[place(d, e)] + leastBefore(office, d, e);
                }
            }
            long least = UNREACHED;
            for (int e = 0; e < EVENTS; e++) {
                least = Math.min(least, upTo[place(DAYS - 1, e)]);
            }
            return least;
        }

        private long leastBefore(Office office, int day, int event) {
            long least = UNREACHED;
            for (int a = 0; a < EVENTS; a++) {
                if (!office.isLaw(a, event)) {
                    least = Math.min(least, upTo[place(day - 1, a)]);
                }
            }
            return least;
        }
    }

    /** The text by which an office is told, and the tokens that it is split into. */
    private static final class Text {

        static final int END = 0, STRANGE = 1, STOP = 2, NUMBER = 3;
        static final int OFFICE = 4, NEVER = 5, KNOWN = 6, ONE = 7, MARK = 8;
        static final int MOST_FIGURES = 2;

        final int[] bytes = new int[MOST_TEXT];
        int length;
        /** The tokens; behind them always an END, which begins where the text ends. */
        final int[] token = new int[MOST_TEXT + 1];
        final int[] start = new int[MOST_TEXT + 1];
        /** What a token is that is a number. */
        final int[] value = new int[MOST_TEXT + 1];
        int tokens;

        void append(int c) {
            if (length < MOST_TEXT) {
                bytes[length] = c;
                length++;
            }
        }

        void split() {
            tokens = 0;
            int at = behindRun(0, ' ', ' ');
            for (int n = 0; n < MOST_TEXT && at < length; n++) {
                at = behindRun(addToken(at), ' ', ' ');
            }
            put(length, END, 0);
        }

        /** Adds the token that begins at a place: the place behind it. */
        private int addToken(int begin) {
            int c = byteAt(begin);
            if (isLetter(c)) {
                int end = behindRun(begin, 'a', 'z');
                put(begin, wordToken(begin, end), 0);
                return end;
            }
            if (isFigure(c)) {
                int end = behindRun(begin, '0', '9');
                boolean tooLong = end - begin > MOST_FIGURES;
                put(begin, tooLong ? STRANGE : NUMBER, tooLong ? 0 : number(begin, end));
                return end;
            }
            put(begin, c == ';' ? STOP : STRANGE, 0);
            return begin + 1;
        }

        private void put(int begin, int what, int number) {
            if (tokens <= MOST_TEXT) {
                token[tokens] = what;
                start[tokens] = begin;
                value[tokens] = number;
                tokens++;
            }
        }

        private static boolean isLetter(int c) {
            return c >= 'a' && c <= 'z';
        }

        private static boolean isFigure(int c) {
            return c >= '0' && c <= '9';
        }

        /** The place behind the bytes from .. to that begin at a place. */
        private int behindRun(int begin, int from, int to) {
            int place = begin;
            while (place < length && byteAt(place) >= from && byteAt(place) <= to) {
                place++;
            }
            return place;
        }

        private int number(int begin, int end) {
            int number = 0;
            for (int place = begin; place < end; place++) {
                number = 10 * number + byteAt(place) - '0';
            }
            return number;
        }

        private int wordToken(int begin, int end) {
            if (spells(begin, end, "office")) {
                return OFFICE;
            }
            if (spells(begin, end, "never")) {
                return NEVER;
            }
            if (spells(begin, end, "known")) {
                return KNOWN;
            }
            if (spells(begin, end, "one")) {
                return ONE;
            }
            return spells(begin, end, "mark") ? MARK : STRANGE;
        }

        private boolean spells(int begin, int end, String word) {
            if (end - begin != word.length()) {
                return false;
            }
            for (int n = 0; n < word.length(); n++) {
                if (byteAt(begin + n) != word.charAt(n)) {
                    return false;
                }
            }
            return true;
        }

        private int byteAt(int place) {
            return place >= 0 && place < length && place < MOST_TEXT ? bytes[place] : NONE;
        }
    }

    /** Reads an office from the tokens of a text, up to the first that can not stand there. */
    private static final class Reader {

        static final int MOST_EVENTS = 3;

        /** The token that is looked at: its number, and what it is. */
        int at;
        int token;
        /** The place of the first fault, or NONE. */
        int fault;

        /** Makes the office anew by the text: how many items, or the answer to the fault. */
        int makeOffice(Text text, Office office) {
            office.reset();
            text.split();
            fault = NONE;
            at = 0;
            token = text.token[at];
            takeIf(text, token == Text.OFFICE);
            takeStop(text);
            int items = 1;
            while (items <= MOST_TEXT && fault == NONE && token != Text.END) {
                takeItem(text, office);
                items++;
            }
            return fault == NONE ? items : FIRST_FAULT - fault;
        }

        private void takeItem(Text text, Office office) {
            switch (token) {
                case Text.NEVER:
                    takeLaw(text, office);
                    break;
                case Text.KNOWN:
                    takeKnown(text, office);
                    break;
                case Text.ONE:
                    takeInspector(text, office);
                    break;
                case Text.MARK:
                    takeMark(text, office);
                    break;
                default:
                    reject(text);
                    break;
            }
        }

        private void takeLaw(Text text, Office office) {
            advance(text);
            int a = takeNumber(text, EVENTS);
            int b = takeNumber(text, EVENTS);
            takeStop(text);
            if (fault == NONE) {
                office.addLaw(a, b);
            }
        }

        private void takeKnown(Text text, Office office) {
            advance(text);
            int day = takeNumber(text, DAYS);
            int event = takeNumber(text, EVENTS);
            takeStop(text);
            if (fault == NONE) {
                office.learn(day, event);
            }
        }

        private void takeInspector(Text text, Office office) {
            takeIf(text, office.inspectors < MOST_INSPECTORS);
            int kind = takeNumber(text, KINDS);
            int trips = takeNumber(text, TRIPS_TOLD);
            takeStop(text);
            if (fault == NONE) {
                office.addInspector(kind, trips);
            }
        }

        private void takeMark(Text text, Office office) {
            takeIf(text, office.marks < MOST_MARKS);
            int inspector = takeNumber(text, office.inspectors);
            int day = takeNumber(text, DAYS);
            int mark = takeNumber(text, MARK_VALUES);
            int events = 1 << takeNumber(text, EVENTS);
            for (int n = 1; n < MOST_EVENTS && token == Text.NUMBER; n++) {
                events = takeUnlike(text, events);
            }
            takeStop(text);
            if (fault == NONE) {
                office.addMark(inspector, day, events, mark);
            }
        }

        /** Takes the token, if it may stand here. */
        private void takeIf(Text text, boolean fits) {
            if (fits) {
                advance(text);
            } else {
                reject(text);
            }
        }

        /** Takes an event that is not among these (bits): these with it. */
        private int takeUnlike(Text text, int events) {
            int event = text.value[at];
            if (event < EVENTS && (events >> event & 1) == 1) {
                reject(text);
                return events;
            }
            return events | 1 << takeNumber(text, EVENTS);
        }

        private int takeNumber(Text text, int limit) {
            int number = text.value[at];
            if (token != Text.NUMBER || number >= limit) {
                reject(text);
                return 0;
            }
            advance(text);
            return number;
        }

        private void takeStop(Text text) {
            takeIf(text, token == Text.STOP);
        }

        private void advance(Text text) {
            if (at < MOST_TEXT) {
                at++;
            }
            token = text.token[at];
        }

        /** The token can not stand here; nothing behind it counts. */
        private void reject(Text text) {
            if (fault == NONE) {
                fault = text.start[at];
            }
            token = Text.STRANGE;
        }
    }
}
