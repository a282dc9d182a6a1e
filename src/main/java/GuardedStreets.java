import java.util.Arrays;

/**
 * Streets beside one another, with houses before which, from a week on, men stand; books of deeds, films of cars, and
 * laws told in a small language that foretell what is stolen and what goes next door. See ../shared/DOC.md.
 */
public final class GuardedStreets {
    public static final int NONE = -1;

    private static final int REFUSED = -2;
    private static final int NO_FRACTION = -1000000000;
    private static final int REFUSED_FRACTION = -2000000000;

    private static final int WEEKS = 260;
    private static final int STREETS = 24;
    private static final int DEEDS = 4;
    private static final int RINGS = 4;
    private static final int LAWS = 8;
    private static final int IMAGES = 4;
    private static final int TAPE = 400;
    private static final int FEED = 20;
    private static final int MOST_BOOKED = 99;
    private static final int MOST_CARS = 999;
    private static final int MOST_WISH = 999;
    private static final int LONGEST = 12;
    private static final int LONGEST_RUN = 60;
    private static final int MOST_TOWNS = 60;
    private static final int MOST_MEN = 10;
    private static final int MOST_WAGE = 9999;
    private static final int MOST_STILL = 900;
    private static final int MOST_THOUSANDTHS = 1000000;
    /** VALUES, and FACTS made of a SIGN, of a LAW together. */
    private static final int MOST_WEIGHT = 60;

    // What a LAW is made into: numbers as they are, WORDS from -1 downwards, and these.
    private static final int PLUS = -11;
    private static final int MINUS = -12;
    private static final int TIMES = -13;
    private static final int OVER = -14;
    private static final int BELOW = -15;
    private static final int AT_MOST = -16;
    private static final int EQUAL = -17;
    private static final int AT_LEAST = -18;
    private static final int ABOVE = -19;
    private static final int BOTH = -20;
    private static final int EITHER = -21;
    private static final int NEGATED = -22;

    private static final int STEAL = 0;
    private static final int MOVES = 1;
    private static final int TOLD = 2;

    private static final int WORD_CARS = 0;
    private static final int WORD_WISH = 1;
    private static final int WORD_GUARD = 2;
    private static final int WORD_RING = 3;
    private static final int WORD_WEEK = 4;
    private static final int WORD_SINCE = 5;
    private static final int WORD_HOUSE = 6;
    private static final int WORD_STREET = 7;
    private static final int WORDS = 8;

    private final Town town = new Town();
    private final Town[] images = new Town[IMAGES];
    private final byte[] tape = new byte[TAPE];
    private int tapeSize = 0;
    private final LawReader reader = new LawReader();
    private final Law[] laws = new Law[LAWS];
    private int lawCount = 0;
    private final long[] misses = new long[LAWS];
    private final Ledger ledger = new Ledger();
    private final Forecast forecast = new Forecast();
    private final Forecast otherForecast = new Forecast();
    private final Draws draws = new Draws();

    public GuardedStreets() {
    }

    public boolean clock(int week) {
        if (!isWeek(week) || week < town.now) {
            return false;
        }
        town.now = week;
        return true;
    }

    public int street(int cars, int wish, boolean house) {
        if (!isWithin(cars, 0, MOST_CARS) || !isWithin(wish, 0, MOST_WISH)) {
            return NONE;
        }
        return town.addStreet(cars, wish, house);
    }

    public boolean beside(int a, int b, boolean is) {
        return a != b && town.setBeside(a, b, is);
    }

    public int ring(int street) {
        return town.ringOf(street);
    }

    public int start(int week) {
        if (week != NONE && !isWeek(week)) {
            return REFUSED;
        }
        int was = town.start;
        town.start = week;
        return was;
    }

    public int book(int street, int week, int deed, int n) {
        Street where = town.streetAt(street);
        if (where == null || !isWithin(week, 0, town.now) || !isDeed(deed) || !isWithin(n, NONE, MOST_BOOKED)) {
            return REFUSED;
        }
        int was = where.bookAt(week, deed);
        where.setBook(week, deed, n);
        town.booksTold += change(was, n);
        return was;
    }

    public int film(int street, int week, int n) {
        Street where = town.streetAt(street);
        if (where == null || !isWithin(week, 0, town.now) || !isWithin(n, NONE, MOST_CARS)) {
            return REFUSED;
        }
        int was = where.filmAt(week);
        where.setFilm(week, n);
        town.filmsTold += change(was, n);
        return was;
    }

    public int feed(int a, int b, int c, int d, int e) {
        if (tapeSize + FEED > TAPE) {
            return NONE;
        }
        feedNumber(a);
        feedNumber(b);
        feedNumber(c);
        feedNumber(d);
        feedNumber(e);
        return tapeSize;
    }

    public int end(int n) {
        if (!isWithin(n, 0, tapeSize)) {
            return NONE;
        }
        tapeSize = n;
        return n;
    }

    public int law() {
        if (lawCount >= laws.length) {
            return NONE;
        }
        int fault = reader.read(tape, tapeSize);
        tapeSize = 0;
        if (fault != 0) {
            return -2 - fault;
        }
        laws[lawCount] = reader.made();
        lawCount++;
        return lawCount - 1;
    }

    public int by(int law, int street, int week, int what) {
        Law told = lawAt(law);
        if (told == null || town.streetAt(street) == null || !isWeek(week) || !isWithin(what, 0, 4)) {
            return NONE;
        }
        forecast.foretellWeek(told, town, week);
        return forecast.answer(street, town.menIn(week), what);
    }

    public int share(int ring, int deed, int from, int to, int part) {
        if (!isRing(ring) || !isDeed(deed) || !isSpan(from, to) || !isWithin(part, 0, 1)) {
            return NONE;
        }
        ledger.takeShare(town, ring, deed, from, to);
        return part == 0 ? (int) ledger.together : ledger.number;
    }

    public long differ(int a, int b, int deed, int week, int n, int part) {
        if (!areUnlikeRings(a, b) || !isDeed(deed) || !isWeek(week) || !isLength(n) || !isWithin(part, 0, 2)) {
            return REFUSED_FRACTION;
        }
        long thousandths = ledger.takeDiffer(town, a, b, deed, week, n);
        if (part == 2) {
            return thousandths;
        }
        return ledger.mean.lowestPart(part);
    }

    public int alike(int a, int b, int deed, int n, int what) {
        if (!areUnlikeRings(a, b) || !isDeed(deed) || !isLength(n) || !isWithin(what, 0, 1)) {
            return NONE;
        }
        long atStart = ledger.takeDifferAtStart(town, a, b, deed, n);
        if (atStart == NO_FRACTION) {
            return -2;
        }
        int all = 0;
        int notAbove = 0;
        for (int week = n; week <= town.start - n; week++) {
            long then = ledger.takeDiffer(town, a, b, deed, week, n);
            if (then != NO_FRACTION) {
                all++;
                notAbove += then <= atStart ? 1 : 0;
            }
        }
        return what == 0 ? all : notAbove;
    }

    public long off(int n, int what) {
        if (!isLength(n) || !isWithin(what, 0, 1)) {
            return REFUSED_FRACTION;
        }
        return what == 0 ? keptOff(n) : nextDoor(n);
    }

    public int thin(int n, int ring) {
        if (!isLength(n) || !isWithin(ring, 1, RINGS - 1)) {
            return NONE;
        }
        long kept = keptOff(n);
        int others = 0;
        for (int r = 1; r <= ring; r++) {
            others += town.sizeOfRing(r);
        }
        if (kept == NO_FRACTION || others == 0) {
            return -2;
        }
        return kept < 0 ? 0 : (int) dividedUpwards(kept, (long) n * others);
    }

    public long cars(int ring, int from, int to) {
        if (!isRing(ring) || !isSpan(from, to)) {
            return NONE;
        }
        return ledger.deedsByCars(town, ring, from, to);
    }

    public int edge(int n) {
        if (!isLength(n)) {
            return NONE;
        }
        int start = town.start;
        if (start == NONE || start - n < 0 || start + n - 1 >= WEEKS) {
            return -2;
        }
        ledger.takeShare(town, 0, 0, start, start + n - 1);
        long since = ledger.together;
        long numberSince = ledger.number;
        ledger.takeShare(town, 0, 0, start - n, start - 1);
        long below = ledger.together * numberSince;
        return below <= 0 ? -2 : (int) (1000 * since * ledger.number / below);
    }

    public int cost(int n, int wage) {
        if (!isLength(n) || !isWithin(wage, 1, MOST_WAGE)) {
            return NONE;
        }
        long kept = keptOff(n);
        if (kept <= 0) {
            return -2;
        }
        return (int) dividedUpwards(1000L * wage * town.sizeOfRing(0) * n, kept);
    }

    public int where(int what, int part) {
        if (!isWithin(what, 0, 1) || !isWithin(part, 0, 1)) {
            return NO_FRACTION;
        }
        ledger.takeWhere(town, what);
        return (int) ledger.mean.lowestPart(part);
    }

    public int like(int street) {
        Street guarded = town.streetAt(street);
        if (guarded == null || !guarded.house) {
            return NONE;
        }
        int likest = -2;
        int least = 0;
        for (int s = 0; s < town.size; s++) {
            Street other = town.streetAt(s);
            if (other != null && town.ringOf(s) == 3 && (likest < 0 || guarded.apartFrom(other) < least)) {
                least = guarded.apartFrom(other);
                likest = s;
            }
        }
        return likest;
    }

    public int deeds(int n, int thousandths) {
        if (!isLength(n) || !isWithin(thousandths, -MOST_THOUSANDTHS, MOST_THOUSANDTHS) || town.start == NONE) {
            return NONE;
        }
        int notAbove = 0;
        for (int deed = 0; deed < DEEDS; deed++) {
            long then = ledger.takeDifferAtStart(town, 0, 3, deed, n);
            if (then != NO_FRACTION && then <= thousandths) {
                notAbove++;
            }
        }
        return notAbove;
    }

    public long miss(int law, int from, int to) {
        Law told = lawAt(law);
        if (told == null || !isSpan(from, to)) {
            return NONE;
        }
        return missOf(told, from, to);
    }

    public int best(int from, int to, int p, int what) {
        if (!isSpan(from, to) || !isWithin(p, 0, MOST_STILL) || !isWithin(what, 0, 1)) {
            return REFUSED;
        }
        int best = NONE;
        long least = 0;
        for (int i = 0; i < lawCount && i < misses.length; i++) {
            misses[i] = missOf(lawAt(i), from, to);
            if (best == NONE || misses[i] < least) {
                best = i;
                least = misses[i];
            }
        }
        return what == 0 ? best : stillBy(least * (100 + p) / 100);
    }

    public int run(int law, int seed, int from, int to, int ring) {
        Law told = lawAt(law);
        if (told == null || seed < 0 || !isSpan(from, to) || to - from >= LONGEST_RUN || !isRing(ring)) {
            return NONE;
        }
        draws.begin(seed);
        int together = 0;
        for (int week = from; week <= to; week++) {
            forecast.foretellWeek(told, town, week);
            for (int s = 0; s < town.size; s++) {
                int drawn = draws.deedsOf(forecast.expectedIn(s));
                together += town.ringOf(s) == ring ? drawn : 0;
            }
        }
        return together;
    }

    public int towns(int law, int seed, int k, int n) {
        Law told = lawAt(law);
        if (told == null || seed < 0 || !isLength(k) || !isWithin(n, 1, MOST_TOWNS)) {
            return NONE;
        }
        long byBooks = ledger.takeDifferAtStart(town, 0, 3, 0, k);
        if (byBooks == NO_FRACTION) {
            return -2;
        }
        for (int week = 0; week < 2 * k; week++) {
            forecast.foretellWeek(told, town, town.start - k + week);
            draws.setWeek(week, forecast);
        }
        draws.begin(seed);
        int notAbove = 0;
        for (int i = 0; i < n; i++) {
            draws.drawTown(town, k);
            notAbove += draws.thousandthsOfLast(town, k, ledger.mean) <= byBooks ? 1 : 0;
        }
        return notAbove;
    }

    public int plan(int m, int week, int one, int other) {
        Law first = lawAt(one);
        Law second = lawAt(other);
        if (first == null || second == null || one == other || !isWithin(m, 1, MOST_MEN) || !isWeek(week)) {
            return NONE;
        }
        int places = Math.min(town.size, MOST_MEN);
        if (places < m) {
            return -2;
        }
        forecast.foretellBothWays(first, town, week);
        otherForecast.foretellBothWays(second, town, week);
        int best = 0;
        long most = -1;
        for (int set = 1; set < 1 << places; set++) {
            if (Integer.bitCount(set) == m) {
                long parted = partedBy(set);
                best = parted > most ? set : best;
                most = Math.max(most, parted);
            }
        }
        return best;
    }

    public int image(int k) {
        if (k < 0 || k >= images.length) {
            return NONE;
        }
        if (images[k] == null) {
            images[k] = new Town();
        }
        images[k].becomeLike(town);
        return town.now;
    }

    public int back(int k) {
        if (k < 0 || k >= images.length || images[k] == null) {
            return NONE;
        }
        town.becomeLike(images[k]);
        return town.now;
    }

    public int count(int what) {
        switch (what) {
            case 0: return town.now;
            case 1: return town.size;
            case 2: return town.pairsBeside();
            case 3: return town.booksTold;
            case 4: return town.filmsTold;
            case 5: return lawCount;
            case 6: return tapeSize;
            default: return NONE;
        }
    }

    private void feedNumber(int number) {
        for (int shift = 24; shift >= 0; shift -= 8) {
            if (tapeSize >= 0 && tapeSize < tape.length) {
                tape[tapeSize] = (byte) (number >>> shift);
                tapeSize++;
            }
        }
    }

    private Law lawAt(int law) {
        return law >= 0 && law < lawCount && law < laws.length ? laws[law] : null;
    }

    /** OFF over n, or NO_FRACTION. */
    private long keptOff(int n) {
        long thousandths = ledger.takeDifferAtStart(town, 0, 3, 0, n);
        return thousandths == NO_FRACTION ? NO_FRACTION : -(town.sizeOfRing(0) * n * thousandths);
    }

    /** DOOR over n, or NO_FRACTION. */
    private long nextDoor(int n) {
        long thousandths = ledger.takeDifferAtStart(town, 1, 3, 0, n);
        return thousandths == NO_FRACTION ? NO_FRACTION : town.sizeOfRing(1) * n * thousandths;
    }

    private long missOf(Law law, int from, int to) {
        long together = 0;
        for (int week = from; week <= to; week++) {
            if (town.tellsOfThefts(week)) {
                forecast.foretellWeek(law, town, week);
                together += forecast.missOfWeek(town, week);
            }
        }
        return together;
    }

    /** The LAWS that miss no more than this, as bits. */
    private int stillBy(long most) {
        int bits = 0;
        for (int i = 0; i < lawCount && i < misses.length; i++) {
            bits |= misses[i] <= most ? 1 << i : 0;
        }
        return bits;
    }

    /** How far the two LAWS lie apart, of all STREETS together, if the men stood in this set. */
    private long partedBy(int set) {
        forecast.expectWith(town, set);
        otherForecast.expectWith(town, set);
        long together = 0;
        for (int s = 0; s < town.size; s++) {
            together += Math.abs(forecast.expectedIn(s) - otherForecast.expectedIn(s));
        }
        return together;
    }

    private static int change(int was, int is) {
        return (is == NONE ? 0 : 1) - (was == NONE ? 0 : 1);
    }

    private static long dividedUpwards(long above, long below) {
        return below == 0 ? 0 : -Math.floorDiv(-above, below);
    }

    private static boolean isWithin(int n, int least, int most) {
        return n >= least && n <= most;
    }

    private static boolean isWeek(int week) {
        return isWithin(week, 0, WEEKS - 1);
    }

    private static boolean isSpan(int from, int to) {
        return isWeek(from) && isWeek(to) && from <= to;
    }

    private static boolean isDeed(int deed) {
        return isWithin(deed, 0, DEEDS - 1);
    }

    private static boolean isRing(int ring) {
        return isWithin(ring, 0, RINGS - 1);
    }

    private static boolean areUnlikeRings(int a, int b) {
        return isRing(a) && isRing(b) && a != b;
    }

    private static boolean isLength(int n) {
        return isWithin(n, 1, LONGEST);
    }

    /** One STREET with its BOOKS and FILMS. */
    private static final class Street {
        int cars = 0;
        int wish = 0;
        boolean house = false;
        /** The STREETS BESIDE it, a bit each. */
        int neighbours = 0;
        private final byte[] books = new byte[WEEKS * DEEDS];
        private final short[] films = new short[WEEKS];

        /** Also for a STREET that was gone back behind: its rows are used again. */
        void become(int newCars, int newWish, boolean newHouse) {
            cars = newCars;
            wish = newWish;
            house = newHouse;
            neighbours = 0;
            Arrays.fill(books, (byte) NONE);
            Arrays.fill(films, (short) NONE);
        }

        void becomeLike(Street other) {
            cars = other.cars;
            wish = other.wish;
            house = other.house;
            neighbours = other.neighbours;
            System.arraycopy(other.books, 0, books, 0, books.length);
            System.arraycopy(other.films, 0, films, 0, films.length);
        }

        int bookAt(int week, int deed) {
            int at = week * DEEDS + deed;
            return at >= 0 && at < books.length ? books[at] : NONE;
        }

        void setBook(int week, int deed, int n) {
            int at = week * DEEDS + deed;
            if (at >= 0 && at < books.length) {
                books[at] = (byte) n;
            }
        }

        int filmAt(int week) {
            return week >= 0 && week < films.length ? films[week] : NONE;
        }

        void setFilm(int week, int n) {
            if (week >= 0 && week < films.length) {
                films[week] = (short) n;
            }
        }

        int apartFrom(Street other) {
            return Math.abs(cars - other.cars) + Math.abs(wish - other.wish);
        }
    }

    /** All that an IMAGE keeps: NOW, START, and the STREETS. */
    private static final class Town {
        int now = 0;
        int start = NONE;
        int size = 0;
        int booksTold = 0;
        int filmsTold = 0;
        private final Street[] streets = new Street[STREETS];
        /** The STREETS of each RING, a bit each. */
        private final int[] rings = new int[RINGS];

        void becomeLike(Town other) {
            now = other.now;
            start = other.start;
            booksTold = other.booksTold;
            filmsTold = other.filmsTold;
            size = other.size;
            for (int s = 0; s < size; s++) {
                Street from = other.streetAt(s);
                Street to = ownStreet(s);
                if (from != null && to != null) {
                    to.becomeLike(from);
                }
            }
            setRings();
        }

        int addStreet(int cars, int wish, boolean house) {
            Street added = ownStreet(size);
            if (added == null) {
                return NONE;
            }
            added.become(cars, wish, house);
            size++;
            setRings();
            return size - 1;
        }

        /** The object for a STREET, made when there is none yet; null beyond the last number. */
        private Street ownStreet(int street) {
            if (street < 0 || street >= streets.length) {
                return null;
            }
            if (streets[street] == null) {
                streets[street] = new Street();
            }
            return streets[street];
        }

        Street streetAt(int street) {
            return street >= 0 && street < size && street < streets.length ? streets[street] : null;
        }

        boolean setBeside(int a, int b, boolean is) {
            Street one = streetAt(a);
            Street other = streetAt(b);
            if (one == null || other == null || (one.neighbours >> b & 1) == (is ? 1 : 0)) {
                return false;
            }
            one.neighbours ^= 1 << b;
            other.neighbours ^= 1 << a;
            setRings();
            return true;
        }

        int neighboursOf(int street) {
            Street where = streetAt(street);
            return where == null ? 0 : where.neighbours;
        }

        int pairsBeside() {
            int ends = 0;
            for (int s = 0; s < size; s++) {
                ends += Integer.bitCount(neighboursOf(s));
            }
            return ends / 2;
        }

        private void setRings() {
            int houses = 0;
            int all = 0;
            for (int s = 0; s < size; s++) {
                Street where = streetAt(s);
                houses |= where != null && where.house ? 1 << s : 0;
                all |= 1 << s;
            }
            int first = neighboursOfSet(houses) & ~houses;
            int second = neighboursOfSet(first) & ~houses & ~first;
            rings[0] = houses;
            rings[1] = first;
            rings[2] = second;
            rings[3] = all & ~houses & ~first & ~second;
        }

        private int neighboursOfSet(int set) {
            int found = 0;
            for (int s = 0; s < size; s++) {
                found |= (set >> s & 1) == 1 ? neighboursOf(s) : 0;
            }
            return found;
        }

        int ringOf(int street) {
            if (street < 0 || street >= size) {
                return NONE;
            }
            for (int r = 0; r < rings.length; r++) {
                if ((rings[r] >> street & 1) == 1) {
                    return r;
                }
            }
            return NONE;
        }

        int sizeOfRing(int ring) {
            return ring >= 0 && ring < rings.length ? Integer.bitCount(rings[ring]) : 0;
        }

        /** The STREETS in which a MAN stands in a WEEK, a bit each. */
        int menIn(int week) {
            return start != NONE && week >= start ? rings[0] : 0;
        }

        int weeksSince(int week) {
            return start == NONE ? 0 : Math.max(0, week - start);
        }

        boolean tellsOfThefts(int week) {
            for (int s = 0; s < size; s++) {
                Street where = streetAt(s);
                if (where != null && where.bookAt(week, 0) != NONE) {
                    return true;
                }
            }
            return false;
        }
    }

    /** A fraction that is added to; 0 by 0 is none, and stays so. */
    private static final class Fraction {
        private long above = 0;
        private long below = 1;

        void toZero() {
            above = 0;
            below = 1;
        }

        void add(long sum, long number) {
            above = above * number + sum * below;
            below = below * number;
        }

        long thousandths() {
            return below <= 0 ? NO_FRACTION : Math.floorDiv(1000 * above, below);
        }

        /** In lowest terms, part 0: above the line, 1: below it. */
        long lowestPart(int part) {
            long divisor = commonDivisor();
            if (divisor == 0) {
                return 0;
            }
            return (part == 0 ? above : below) / divisor;
        }

        private long commonDivisor() {
            long a = Math.abs(above);
            long b = below;
            for (int step = 0; step < 1000 && b != 0; step++) {
                long rest = a % b;
                a = b;
                b = rest;
            }
            return a;
        }
    }

    /** What the BOOKS and FILMS tell together; its last answer stands in the fields. */
    private static final class Ledger {
        long together = 0;
        int number = 0;
        final Fraction mean = new Fraction();

        void takeShare(Town town, int ring, int deed, int from, int to) {
            together = 0;
            number = 0;
            for (int s = 0; s < town.size; s++) {
                Street where = town.streetAt(s);
                if (where != null && town.ringOf(s) == ring) {
                    for (int week = from; week <= to; week++) {
                        int n = where.bookAt(week, deed);
                        together += n == NONE ? 0 : n;
                        number += n == NONE ? 0 : 1;
                    }
                }
            }
        }

        /** DIFFER in thousandths, or NO_FRACTION; the mean is DIFFER itself. */
        long takeDiffer(Town town, int a, int b, int deed, int week, int n) {
            mean.toZero();
            if (week - n < 0 || week + n - 1 >= WEEKS) {
                mean.add(0, 0);
                return NO_FRACTION;
            }
            takeShare(town, a, deed, week, week + n - 1);
            mean.add(together, number);
            takeShare(town, a, deed, week - n, week - 1);
            mean.add(-together, number);
            takeShare(town, b, deed, week, week + n - 1);
            mean.add(-together, number);
            takeShare(town, b, deed, week - n, week - 1);
            mean.add(together, number);
            return mean.thousandths();
        }

        long takeDifferAtStart(Town town, int a, int b, int deed, int n) {
            return town.start == NONE ? NO_FRACTION : takeDiffer(town, a, b, deed, town.start, n);
        }

        /** WHERE, as the mean. */
        void takeWhere(Town town, int what) {
            long guarded = 0;
            long others = 0;
            for (int s = 0; s < town.size; s++) {
                Street where = town.streetAt(s);
                if (where != null) {
                    int size = what == 0 ? where.cars : where.wish;
                    guarded += where.house ? size : 0;
                    others += where.house ? 0 : size;
                }
            }
            int houses = town.sizeOfRing(0);
            mean.toZero();
            mean.add(guarded, houses);
            mean.add(-others, town.size - houses);
        }

        /** BY CARS, or -2. */
        long deedsByCars(Town town, int ring, int from, int to) {
            long deeds = 0;
            long cars = 0;
            for (int s = 0; s < town.size; s++) {
                Street where = town.streetAt(s);
                if (where != null && town.ringOf(s) == ring) {
                    for (int week = from; week <= to; week++) {
                        int n = where.bookAt(week, 0);
                        int seen = where.filmAt(week);
                        boolean isBoth = n != NONE && seen != NONE;
                        deeds += isBoth ? n : 0;
                        cars += isBoth ? seen : 0;
                    }
                }
            }
            return cars <= 0 ? -2 : deeds * 1000000 / cars;
        }
    }

    /** A LAW as steps for a Reckoner; of each CLAUSE four numbers: its sort, where its SUM begins, its TEST, its end. */
    private static final class Law {
        final int[] steps;
        final int[] clauses;

        Law(int[] steps, int[] clauses) {
            this.steps = steps;
            this.clauses = clauses;
        }
    }

    /** The text of a LAW cut into signs: of each its sort, what it is worth, its first byte's place. */
    private static final class Signs {
        static final int END = 0;
        /** Stands nowhere. */
        static final int STRANGE = 1;
        static final int NUMBER = 2;
        static final int LONG_NUMBER = 3;
        static final int WORD = 4;
        static final int CLAUSE = 5;
        static final int IF = 6;
        static final int NOT = 7;
        static final int AND = 8;
        static final int OR = 9;
        static final int OPENS = 10;
        static final int CLOSES = 11;
        static final int ADDS = 12;
        static final int MULTIPLIES = 13;
        static final int COMPARES = 14;
        static final int NEXT = 15;

        private static final int MOST_DIGITS = 5;
        private static final int KNOWN_WORDS = 15;

        final int[] sorts = new int[TAPE + 1];
        final int[] worths = new int[TAPE + 1];
        final int[] places = new int[TAPE + 1];
        int count = 0;
        private byte[] text = null;
        private int length = 0;
        private int at = 0;

        void cut(byte[] newText, int newLength) {
            text = newText;
            length = newLength;
            at = 0;
            count = 0;
            for (int i = 0; i < TAPE && at < length; i++) {
                cutNext();
            }
            add(END, 0, length);
        }

        private void cutNext() {
            int place = at;
            int c = byteAt(at);
            at++;
            if (isLetter(c)) {
                cutWord(place);
            } else if (isDigit(c)) {
                cutNumber(place);
            } else if (c != ' ') {
                cutMark(place, c);
            }
        }

        private void add(int sort, int worth, int place) {
            if (count >= 0 && count < sorts.length && count < worths.length && count < places.length) {
                sorts[count] = sort;
                worths[count] = worth;
                places[count] = place;
                count++;
            }
        }

        private int byteAt(int index) {
            return text != null && index >= 0 && index < length && index < text.length ? text[index] & 255 : 0;
        }

        private static boolean isLetter(int c) {
            return c >= 'a' && c <= 'z';
        }

        private static boolean isDigit(int c) {
            return c >= '0' && c <= '9';
        }

        private void cutNumber(int place) {
            for (int i = 0; i < TAPE && isDigit(byteAt(at)); i++) {
                at++;
            }
            int number = 0;
            for (int i = place; i < at && i < place + MOST_DIGITS; i++) {
                number = 10 * number + byteAt(i) - '0';
            }
            add(at - place > MOST_DIGITS ? LONG_NUMBER : NUMBER, number, place);
        }

        private void cutWord(int place) {
            for (int i = 0; i < TAPE && isLetter(byteAt(at)); i++) {
                at++;
            }
            int known = 0;
            while (known < KNOWN_WORDS && !isWord(wordAt(known), place)) {
                known++;
            }
            if (known < WORDS) {
                add(WORD, known, place);
            } else if (known < WORDS + 3) {
                add(CLAUSE, known - WORDS, place);
            } else {
                add(known < KNOWN_WORDS ? IF + known - WORDS - 3 : STRANGE, 0, place);
            }
        }

        /** Whether just this word stands from the place up to where the reading is. */
        private boolean isWord(String word, int place) {
            if (word.length() != at - place) {
                return false;
            }
            for (int i = 0; i < word.length(); i++) {
                if (word.charAt(i) != byteAt(place + i)) {
                    return false;
                }
            }
            return true;
        }

        /** First the WORDS in the order of their numbers, then the sorts of CLAUSES, then those from IF to OR. */
        private static String wordAt(int known) {
            switch (known) {
                case WORD_CARS: return "cars";
                case WORD_WISH: return "wish";
                case WORD_GUARD: return "guard";
                case WORD_RING: return "ring";
                case WORD_WEEK: return "week";
                case WORD_SINCE: return "since";
                case WORD_HOUSE: return "house";
                case WORD_STREET: return "street";
                case WORDS + STEAL: return "steal";
                case WORDS + MOVES: return "moves";
                case WORDS + TOLD: return "told";
                case WORDS + 3: return "if";
                case WORDS + 4: return "not";
                case WORDS + 5: return "and";
                default: return "or";
            }
        }

        private void cutMark(int place, int c) {
            switch (c) {
                case '+': add(ADDS, PLUS, place); break;
                case '-': add(ADDS, MINUS, place); break;
                case '*': add(MULTIPLIES, TIMES, place); break;
                case '/': add(MULTIPLIES, OVER, place); break;
                case '=': add(COMPARES, EQUAL, place); break;
                case '<': add(COMPARES, isEqualNext() ? AT_MOST : BELOW, place); break;
                case '>': add(COMPARES, isEqualNext() ? AT_LEAST : ABOVE, place); break;
                case '[': add(OPENS, 0, place); break;
                case ']': add(CLOSES, 0, place); break;
                case ';': add(NEXT, 0, place); break;
                default: add(STRANGE, 0, place); break;
            }
        }

        private boolean isEqualNext() {
            boolean is = byteAt(at) == '=';
            at += is ? 1 : 0;
            return is;
        }
    }

    /** Makes a LAW of its signs; the first FAULT ends it. */
    private static final class LawReader {
        private static final int MOST_CLAUSES = 12;
        private static final int MOST_DEEP = 10;

        private static final int OUT_OF_PLACE = 0;
        private static final int TOO_LONG = 1;
        private static final int TOO_DEEP = 2;
        private static final int TOO_HEAVY = 3;
        private static final int TOO_MANY = 4;

        private final Signs signs = new Signs();
        /** The sign that is looked at, its sort, what it is worth, its first byte's place. */
        private int sign = 0;
        private int sort = Signs.END;
        private int worth = 0;
        private int place = 0;
        private int fault = 0;
        private int weight = 0;
        private final int[] steps = new int[TAPE];
        private int stepCount = 0;
        private final int[] clauses = new int[4 * MOST_CLAUSES];
        private int clauseCount = 0;

        /** The FAULT, or 0: then made() is the LAW. */
        int read(byte[] text, int length) {
            fault = 0;
            weight = 0;
            stepCount = 0;
            clauseCount = 0;
            signs.cut(text, length);
            goTo(0);
            readClause();
            for (int i = 0; i < TAPE && sort == Signs.NEXT; i++) {
                goTo(sign + 1);
                readClause();
            }
            if (sort != Signs.END) {
                fail(OUT_OF_PLACE);
            }
            return fault;
        }

        Law made() {
            int[] ownSteps = Arrays.copyOf(steps, Math.max(0, stepCount));
            int[] ownClauses = Arrays.copyOf(clauses, Math.max(0, 4 * clauseCount));
            return new Law(ownSteps, ownClauses);
        }

        private void goTo(int newSign) {
            if (newSign >= 0 && newSign < signs.count && newSign <= TAPE) {
                sign = newSign;
                sort = signs.sorts[sign];
                worth = signs.worths[sign];
                place = signs.places[sign];
            }
        }

        /** Behind the first FAULT nothing is looked at any more, and what else seems wrong only follows from it. */
        private void fail(int kind) {
            if (fault == 0) {
                fault = 1 + 8 * place + kind;
            }
            sort = Signs.STRANGE;
        }

        private void add(int step) {
            if (stepCount >= 0 && stepCount < steps.length) {
                steps[stepCount] = step;
                stepCount++;
            }
        }

        private void readClause() {
            int first = 4 * clauseCount;
            if (sort != Signs.CLAUSE) {
                fail(OUT_OF_PLACE);
            } else if (first < 0 || first + 3 >= clauses.length) {
                fail(TOO_MANY);
            } else {
                clauses[first] = worth;
                clauses[first + 1] = stepCount;
                goTo(sign + 1);
                readSum();
                clauses[first + 2] = stepCount;
                if (sort == Signs.IF) {
                    goTo(sign + 1);
                    readTest(0);
                }
                clauses[first + 3] = stepCount;
                clauseCount++;
            }
        }

        private void readTest(int depth) {
            readPart(depth);
            for (int i = 0; i < TAPE && sort == Signs.OR; i++) {
                goTo(sign + 1);
                readPart(depth);
                add(EITHER);
            }
        }

        private void readPart(int depth) {
            readFact(depth);
            for (int i = 0; i < TAPE && sort == Signs.AND; i++) {
                goTo(sign + 1);
                readFact(depth);
                add(BOTH);
            }
        }

        private void readFact(int depth) {
            if (sort == Signs.NOT || sort == Signs.OPENS) {
                readDeeper(depth);
                return;
            }
            readSum();
            int comparison = worth;
            if (sort != Signs.COMPARES) {
                fail(OUT_OF_PLACE);
            } else if (weight >= MOST_WEIGHT) {
                fail(TOO_HEAVY);
            } else {
                weight++;
                goTo(sign + 1);
                readSum();
                add(comparison);
            }
        }

        private void readDeeper(int depth) {
            if (depth >= MOST_DEEP) {
                fail(TOO_DEEP);
            } else if (sort == Signs.NOT) {
                goTo(sign + 1);
                readFact(depth + 1);
                add(NEGATED);
            } else {
                goTo(sign + 1);
                readTest(depth + 1);
                if (sort == Signs.CLOSES) {
                    goTo(sign + 1);
                } else {
                    fail(OUT_OF_PLACE);
                }
            }
        }

        private void readSum() {
            readTerm();
            for (int i = 0; i < TAPE && sort == Signs.ADDS; i++) {
                int step = worth;
                goTo(sign + 1);
                readTerm();
                add(step);
            }
        }

        private void readTerm() {
            readValue();
            for (int i = 0; i < TAPE && sort == Signs.MULTIPLIES; i++) {
                int step = worth;
                goTo(sign + 1);
                readValue();
                add(step);
            }
        }

        private void readValue() {
            if (sort == Signs.LONG_NUMBER) {
                fail(TOO_LONG);
            } else if (sort != Signs.NUMBER && sort != Signs.WORD) {
                fail(OUT_OF_PLACE);
            } else if (weight >= MOST_WEIGHT) {
                fail(TOO_HEAVY);
            } else {
                weight++;
                add(sort == Signs.NUMBER ? worth : -1 - worth);
                goTo(sign + 1);
            }
        }
    }

    /** Reckons the SUMS of a LAW for the WORDS that are set. */
    private static final class Reckoner {
        private final long[] words = new long[WORDS];
        private final long[] stack = new long[MOST_WEIGHT];

        void setWords(Town town, Street where, int street, int week) {
            words[WORD_CARS] = where.cars;
            words[WORD_WISH] = where.wish;
            words[WORD_WEEK] = week;
            words[WORD_SINCE] = town.weeksSince(week);
            words[WORD_HOUSE] = where.house ? 1 : 0;
            words[WORD_STREET] = street;
        }

        void setGuardAndRing(int guard, int ring) {
            words[WORD_GUARD] = guard;
            words[WORD_RING] = ring;
        }

        /** The SUM of the CLAUSE that holds, held to 0 to most; without one, what is told for that. */
        int sumOf(Law law, int sort, int most, int without) {
            int[] clauses = law.clauses;
            for (int i = 0; i + 3 < clauses.length; i += 4) {
                boolean isWithoutTest = clauses[i + 2] >= clauses[i + 3];
                if (clauses[i] == sort && (isWithoutTest || reckon(law.steps, clauses[i + 2], clauses[i + 3]) != 0)) {
                    long sum = reckon(law.steps, clauses[i + 1], clauses[i + 2]);
                    return (int) Math.max(0, Math.min(most, sum));
                }
            }
            return without;
        }

        private long reckon(int[] steps, int from, int to) {
            int top = 0;
            for (int i = Math.max(0, from); i < to && i < steps.length; i++) {
                int step = steps[i];
                if (step > PLUS) {
                    if (top >= 0 && top < stack.length) {
                        stack[top] = step >= 0 ? step : wordWorth(-1 - step);
                        top++;
                    }
                } else if (step == NEGATED) {
                    if (top >= 1 && top <= stack.length) {
                        stack[top - 1] = 1 - stack[top - 1];
                    }
                } else if (top >= 2 && top <= stack.length) {
                    top--;
                    stack[top - 1] = joined(step, stack[top - 1], stack[top]);
                }
            }
            return stack[0];
        }

        private long wordWorth(int word) {
            return word >= 0 && word < words.length ? words[word] : 0;
        }

        private static long joined(int step, long a, long b) {
            switch (step) {
                case PLUS: return a + b;
                case MINUS: return a - b;
                case TIMES: return a * b;
                case OVER: return b == 0 ? 0 : a / b;
                case BELOW: return a < b ? 1 : 0;
                case AT_MOST: return a <= b ? 1 : 0;
                case EQUAL: return a == b ? 1 : 0;
                case AT_LEAST: return a >= b ? 1 : 0;
                case ABOVE: return a > b ? 1 : 0;
                case BOTH: return a & b;
                default: return a | b;
            }
        }
    }

    /** What a LAW foretells of all STREETS in a WEEK. The rows tell first of STREETS without a MAN, then with one. */
    private static final class Forecast {
        private static final int MOST_STOLEN = 99999;

        private final Reckoner reckoner = new Reckoner();
        private final int[] stolen = new int[2 * STREETS];
        private final int[] kept = new int[2 * STREETS];
        private final int[] moves = new int[2 * STREETS];
        private final int[] told = new int[2 * STREETS];
        /** What goes from each STREET to each that may be gone to. */
        private final int[] going = new int[STREETS];
        private final int[] expected = new int[STREETS];

        void foretellWeek(Law law, Town town, int week) {
            int men = town.menIn(week);
            for (int s = 0; s < town.size; s++) {
                foretellStreet(law, town, week, s, men >> s & 1);
            }
            expectWith(town, men);
        }

        /** Both without and with a MAN, so that expectWith may ask for any set of them. */
        void foretellBothWays(Law law, Town town, int week) {
            for (int s = 0; s < town.size; s++) {
                foretellStreet(law, town, week, s, 0);
                foretellStreet(law, town, week, s, 1);
            }
        }

        private void foretellStreet(Law law, Town town, int week, int street, int guard) {
            Street where = town.streetAt(street);
            int at = guard * STREETS + street;
            if (law == null || where == null || at < 0 || at >= stolen.length) {
                return;
            }
            reckoner.setWords(town, where, street, week);
            reckoner.setGuardAndRing(guard, town.ringOf(street));
            stolen[at] = reckoner.sumOf(law, STEAL, MOST_STOLEN, 0);
            moves[at] = reckoner.sumOf(law, MOVES, 1000, 0);
            told[at] = reckoner.sumOf(law, TOLD, 1000, 1000);
            reckoner.setGuardAndRing(0, 3);
            kept[at] = Math.max(0, reckoner.sumOf(law, STEAL, MOST_STOLEN, 0) - stolen[at]);
        }

        /** EXPECTED of all STREETS, with men in this set. */
        void expectWith(Town town, int men) {
            for (int s = 0; s < town.size && s < going.length; s++) {
                going[s] = goingFrom(town, s, men);
            }
            for (int s = 0; s < town.size && s < expected.length; s++) {
                int at = placeOf(s, men);
                if (at >= 0 && at < stolen.length && at < told.length) {
                    boolean isGuarded = (men >> s & 1) == 1;
                    long all = stolen[at] + (isGuarded ? 0 : comingFrom(town.neighboursOf(s), town.size));
                    expected[s] = (int) (all * told[at] / 1000);
                }
            }
        }

        /** Where a STREET stands in the rows, with men in this set. */
        private static int placeOf(int street, int men) {
            return (men >> street & 1) * STREETS + street;
        }

        private int goingFrom(Town town, int street, int men) {
            int open = Integer.bitCount(town.neighboursOf(street) & ~men);
            int at = placeOf(street, men);
            if (open == 0 || at < 0 || at >= kept.length || at >= moves.length) {
                return 0;
            }
            return kept[at] * moves[at] / 1000 / open;
        }

        private long comingFrom(int neighbours, int size) {
            long coming = 0;
            for (int s = 0; s < size && s < going.length; s++) {
                coming += (neighbours >> s & 1) == 1 ? going[s] : 0;
            }
            return coming;
        }

        int expectedIn(int street) {
            return street >= 0 && street < expected.length ? expected[street] : 0;
        }

        /** What 0: STOLEN, 1: KEPT OFF, 2: MOVES, 3: TOLD, 4: EXPECTED. */
        int answer(int street, int men, int what) {
            int at = placeOf(street, men);
            if (at < 0 || at >= stolen.length) {
                return NONE;
            }
            switch (what) {
                case 0: return stolen[at];
                case 1: return kept[at];
                case 2: return moves[at];
                case 3: return told[at];
                default: return expectedIn(street);
            }
        }

        long missOfWeek(Town town, int week) {
            long together = 0;
            for (int s = 0; s < town.size; s++) {
                Street where = town.streetAt(s);
                int booked = where == null ? NONE : where.bookAt(week, 0);
                together += booked == NONE ? 0 : Math.abs(1000 * booked - expectedIn(s));
            }
            return together;
        }
    }

    /** The draws of RUN and TOWNS. The WEEKS of a town are counted from its first one. */
    private static final class Draws {
        private long x = 0;
        /** EXPECTED of each WEEK and STREET. */
        private final int[] expected = new int[2 * LONGEST * STREETS];
        /** DEEDS of each RING together in a town, ahead of START (even places) and since (odd ones). */
        private final long[] together = new long[2 * RINGS];

        void begin(int seed) {
            x = seed;
        }

        int deedsOf(int expectedThere) {
            x = (x * 1103515245L + 12345L) % 2147483648L;
            return expectedThere / 1000 + (x / 65536 % 1000 < expectedThere % 1000 ? 1 : 0);
        }

        void setWeek(int week, Forecast forecast) {
            for (int s = 0; s < STREETS; s++) {
                int at = week * STREETS + s;
                if (at >= 0 && at < expected.length) {
                    expected[at] = forecast.expectedIn(s);
                }
            }
        }

        void drawTown(Town town, int k) {
            Arrays.fill(together, 0L);
            for (int week = 0; week < 2 * k; week++) {
                for (int s = 0; s < town.size; s++) {
                    int at = week * STREETS + s;
                    int sum = 2 * town.ringOf(s) + (week < k ? 0 : 1);
                    if (at >= 0 && at < expected.length && sum >= 0 && sum < together.length) {
                        together[sum] += deedsOf(expected[at]);
                    }
                }
            }
        }

        /** DIFFER of RINGS 0 and 3 by the last town, in thousandths. */
        long thousandthsOfLast(Town town, int k, Fraction mean) {
            mean.toZero();
            mean.add(together[1] - together[0], (long) k * town.sizeOfRing(0));
            mean.add(together[6] - together[7], (long) k * town.sizeOfRing(3));
            return mean.thousandths();
        }
    }
}
