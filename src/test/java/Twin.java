import java.math.BigInteger;
import java.util.ArrayList;
import java.util.Arrays;
import java.util.HashMap;
import java.util.List;
import java.util.Map;
import java.util.TreeSet;

/** The document's words told once more, as plainly as can be and without a thought of speed; RandomRunsTest compares. */
final class Twin {
    private static final class State {
        int now = 0;
        int start = -1;
        List<int[]> streets = new ArrayList<>();
        TreeSet<String> beside = new TreeSet<>();
        Map<String, Integer> books = new HashMap<>();
        Map<String, Integer> films = new HashMap<>();

        State copy() {
            State copy = new State();
            copy.now = now;
            copy.start = start;
            copy.streets = new ArrayList<>(streets);
            copy.beside = new TreeSet<>(beside);
            copy.books = new HashMap<>(books);
            copy.films = new HashMap<>(films);
            return copy;
        }
    }

    /** above by below; null is none. */
    private record Ratio(BigInteger above, BigInteger below) {
        static Ratio of(long above, long below) {
            return below == 0 ? null : new Ratio(BigInteger.valueOf(above), BigInteger.valueOf(below)).lowest();
        }

        Ratio lowest() {
            BigInteger divisor = above.gcd(below);
            divisor = below.signum() < 0 ? divisor.negate() : divisor;
            return new Ratio(above.divide(divisor), below.divide(divisor));
        }

        static Ratio less(Ratio a, Ratio b) {
            if (a == null || b == null) {
                return null;
            }
            return new Ratio(a.above.multiply(b.below).subtract(b.above.multiply(a.below)), a.below.multiply(b.below))
                    .lowest();
        }

        long timesDown(long n) {
            BigInteger[] parts = above.multiply(BigInteger.valueOf(n)).divideAndRemainder(below);
            return parts[0].longValueExact() - (parts[1].signum() < 0 ? 1 : 0);
        }

        long timesUp(long n) {
            return -new Ratio(above.negate(), below).timesDown(n);
        }
    }

    private static final long NO_DIFFER = -1000000000L;
    private static final long NOT_SUCH = -2000000000L;

    private State state = new State();
    private final State[] images = new State[4];
    private final List<TwinLaw> laws = new ArrayList<>();
    private String tape = "";

    private static boolean in(long n, long least, long most) {
        return least <= n && n <= most;
    }

    private static boolean span(int from, int to) {
        return in(from, 0, 259) && in(to, 0, 259) && from <= to;
    }

    private boolean has(int street) {
        return in(street, 0, state.streets.size() - 1);
    }

    private boolean isBeside(int a, int b) {
        return state.beside.contains(Math.min(a, b) + " " + Math.max(a, b));
    }

    private boolean house(int street) {
        return state.streets.get(street)[2] == 1;
    }

    boolean clock(int week) {
        if (!in(week, state.now, 259)) {
            return false;
        }
        state.now = week;
        return true;
    }

    int street(int cars, int wish, boolean house) {
        if (!in(cars, 0, 999) || !in(wish, 0, 999) || state.streets.size() == 24) {
            return -1;
        }
        state.streets.add(new int[] {cars, wish, house ? 1 : 0});
        return state.streets.size() - 1;
    }

    boolean beside(int a, int b, boolean is) {
        if (!has(a) || !has(b) || a == b || isBeside(a, b) == is) {
            return false;
        }
        String pair = Math.min(a, b) + " " + Math.max(a, b);
        if (is) {
            state.beside.add(pair);
        } else {
            state.beside.remove(pair);
        }
        return true;
    }

    int ring(int street) {
        if (!has(street)) {
            return -1;
        }
        if (house(street)) {
            return 0;
        }
        if (isByHouse(street)) {
            return 1;
        }
        for (int s = 0; s < state.streets.size(); s++) {
            if (isBeside(street, s) && isByHouse(s)) {
                return 2;
            }
        }
        return 3;
    }

    private boolean isByHouse(int street) {
        for (int s = 0; s < state.streets.size(); s++) {
            if (isBeside(street, s) && house(s)) {
                return true;
            }
        }
        return false;
    }

    private List<Integer> streetsOf(int ring) {
        List<Integer> found = new ArrayList<>();
        for (int s = 0; s < state.streets.size(); s++) {
            if (ring(s) == ring) {
                found.add(s);
            }
        }
        return found;
    }

    int start(int week) {
        if (!in(week, -1, 259)) {
            return -2;
        }
        int was = state.start;
        state.start = week;
        return was;
    }

    private static int put(Map<String, Integer> told, String key, int n) {
        int was = told.getOrDefault(key, -1);
        told.remove(key);
        if (n != -1) {
            told.put(key, n);
        }
        return was;
    }

    int book(int street, int week, int deed, int n) {
        if (!has(street) || !in(week, 0, state.now) || !in(deed, 0, 3) || !in(n, -1, 99)) {
            return -2;
        }
        return put(state.books, street + " " + week + " " + deed, n);
    }

    int film(int street, int week, int n) {
        if (!has(street) || !in(week, 0, state.now) || !in(n, -1, 999)) {
            return -2;
        }
        return put(state.films, street + " " + week, n);
    }

    private Integer booked(int street, int week, int deed) {
        return state.books.get(street + " " + week + " " + deed);
    }

    int feed(int... numbers) {
        if (tape.length() + 20 > 400) {
            return -1;
        }
        for (int number : numbers) {
            for (int b = 3; b >= 0; b--) {
                tape += (char) (number >> 8 * b & 255);
            }
        }
        return tape.length();
    }

    int end(int n) {
        if (!in(n, 0, tape.length())) {
            return -1;
        }
        tape = tape.substring(0, n);
        return n;
    }

    int law() {
        if (laws.size() == 8) {
            return -1;
        }
        TwinLaw law = new TwinLaw(tape);
        tape = "";
        if (law.fault != 0) {
            return -2 - law.fault;
        }
        laws.add(law);
        return laws.size() - 1;
    }

    private boolean isMan(int street, int week) {
        return house(street) && state.start != -1 && week >= state.start;
    }

    private boolean[] men(int week) {
        boolean[] men = new boolean[state.streets.size()];
        for (int s = 0; s < men.length; s++) {
            men[s] = isMan(s, week);
        }
        return men;
    }

    private int held(TwinLaw law, String sort, int street, int week, int guard, int ring) {
        int[] where = state.streets.get(street);
        Map<String, Long> words = new HashMap<>();
        words.put("cars", (long) where[0]);
        words.put("wish", (long) where[1]);
        words.put("house", (long) where[2]);
        words.put("guard", (long) guard);
        words.put("ring", (long) ring);
        words.put("week", (long) week);
        words.put("since", state.start == -1 || week < state.start ? 0L : week - state.start);
        words.put("street", (long) street);
        Long sum = law.sum(sort, words);
        if (sum == null) {
            return sort.equals("told") ? 1000 : 0;
        }
        return (int) Math.min(Math.max(sum, 0), sort.equals("steal") ? 99999 : 1000);
    }

    private int answer(TwinLaw law, int street, int week, int what, boolean[] men) {
        int guard = men[street] ? 1 : 0;
        switch (what) {
            case 0: return held(law, "steal", street, week, guard, ring(street));
            case 1: return Math.max(0, held(law, "steal", street, week, 0, 3) - answer(law, street, week, 0, men));
            case 2: return held(law, "moves", street, week, guard, ring(street));
            case 3: return held(law, "told", street, week, guard, ring(street));
            default: return expected(law, street, week, men);
        }
    }

    private int expected(TwinLaw law, int street, int week, boolean[] men) {
        long all = answer(law, street, week, 0, men);
        for (int s = 0; s < men.length && !men[street]; s++) {
            if (isBeside(s, street)) {
                int open = 0;
                for (int t = 0; t < men.length; t++) {
                    open += isBeside(s, t) && !men[t] ? 1 : 0;
                }
                long going = (long) answer(law, s, week, 1, men) * answer(law, s, week, 2, men) / 1000;
                all += going / open;
            }
        }
        return (int) (all * answer(law, street, week, 3, men) / 1000);
    }

    int by(int law, int street, int week, int what) {
        if (!in(law, 0, laws.size() - 1) || !has(street) || !in(week, 0, 259) || !in(what, 0, 4)) {
            return -1;
        }
        return answer(laws.get(law), street, week, what, men(week));
    }

    private long[] told(int ring, int deed, int from, int to) {
        long[] sums = new long[2];
        for (int s : streetsOf(ring)) {
            for (int week = from; week <= to; week++) {
                Integer n = booked(s, week, deed);
                sums[0] += n == null ? 0 : n;
                sums[1] += n == null ? 0 : 1;
            }
        }
        return sums;
    }

    private Ratio share(int ring, int deed, int from, int to) {
        if (!span(from, to)) {
            return null;
        }
        long[] sums = told(ring, deed, from, to);
        return Ratio.of(sums[0], sums[1]);
    }

    int share(int ring, int deed, int from, int to, int part) {
        if (!in(ring, 0, 3) || !in(deed, 0, 3) || !span(from, to) || !in(part, 0, 1)) {
            return -1;
        }
        return (int) told(ring, deed, from, to)[part];
    }

    private Ratio change(int ring, int deed, int week, int n) {
        return Ratio.less(share(ring, deed, week, week + n - 1), share(ring, deed, week - n, week - 1));
    }

    private Ratio differ(int a, int b, int deed, int week, int n) {
        return Ratio.less(change(a, deed, week, n), change(b, deed, week, n));
    }

    long differ(int a, int b, int deed, int week, int n, int part) {
        if (!in(a, 0, 3) || !in(b, 0, 3) || a == b || !in(deed, 0, 3) || !in(week, 0, 259) || !in(n, 1, 12)
                || !in(part, 0, 2)) {
            return NOT_SUCH;
        }
        Ratio differ = differ(a, b, deed, week, n);
        if (differ == null) {
            return part == 2 ? NO_DIFFER : 0;
        }
        return part == 0 ? differ.above.longValueExact() : part == 1 ? differ.below.longValueExact()
                : differ.timesDown(1000);
    }

    int alike(int a, int b, int deed, int n, int what) {
        if (!in(a, 0, 3) || !in(b, 0, 3) || a == b || !in(deed, 0, 3) || !in(n, 1, 12) || !in(what, 0, 1)) {
            return -1;
        }
        if (state.start == -1 || differ(a, b, deed, state.start, n) == null) {
            return -2;
        }
        int[] counts = new int[2];
        for (int week = n; week <= state.start - n; week++) {
            Ratio differ = differ(a, b, deed, week, n);
            if (differ != null) {
                counts[0]++;
                if (differ.timesDown(1000) <= differ(a, b, deed, state.start, n).timesDown(1000)) {
                    counts[1]++;
                }
            }
        }
        return counts[what];
    }

    /** OFF (what 0) or DOOR; null is none. */
    private Long offOf(int n, int what) {
        Ratio differ = state.start == -1 ? null : differ(what, 3, 0, state.start, n);
        if (differ == null) {
            return null;
        }
        long times = streetsOf(what).size() * (long) n * differ.timesDown(1000);
        return what == 0 ? -times : times;
    }

    long off(int n, int what) {
        if (!in(n, 1, 12) || !in(what, 0, 1)) {
            return NOT_SUCH;
        }
        Long off = offOf(n, what);
        return off == null ? NO_DIFFER : off;
    }

    int thin(int n, int ring) {
        if (!in(n, 1, 12) || !in(ring, 1, 3)) {
            return -1;
        }
        Long off = offOf(n, 0);
        int streets = 0;
        for (int r = 1; r <= ring; r++) {
            streets += streetsOf(r).size();
        }
        if (off == null || streets == 0) {
            return -2;
        }
        return off < 0 ? 0 : (int) Ratio.of(off, (long) n * streets).timesUp(1);
    }

    long cars(int ring, int from, int to) {
        if (!in(ring, 0, 3) || !span(from, to)) {
            return -1;
        }
        long deeds = 0;
        long cars = 0;
        for (int s : streetsOf(ring)) {
            for (int week = from; week <= to; week++) {
                Integer booked = booked(s, week, 0);
                Integer filmed = state.films.get(s + " " + week);
                if (booked != null && filmed != null) {
                    deeds += booked;
                    cars += filmed;
                }
            }
        }
        return cars == 0 ? -2 : Ratio.of(deeds, cars).timesDown(1000000);
    }

    int edge(int n) {
        if (!in(n, 1, 12)) {
            return -1;
        }
        Ratio since = state.start == -1 ? null : share(0, 0, state.start, state.start + n - 1);
        Ratio ahead = state.start == -1 ? null : share(0, 0, state.start - n, state.start - 1);
        if (since == null || ahead == null || ahead.above.signum() == 0) {
            return -2;
        }
        return (int) new Ratio(since.above.multiply(ahead.below), since.below.multiply(ahead.above)).timesDown(1000);
    }

    int cost(int n, int wage) {
        if (!in(n, 1, 12) || !in(wage, 1, 9999)) {
            return -1;
        }
        Long off = offOf(n, 0);
        return off == null || off <= 0 ? -2 : (int) Ratio.of(1000L * wage * streetsOf(0).size() * n, off).timesUp(1);
    }

    int where(int what, int part) {
        if (!in(what, 0, 1) || !in(part, 0, 1)) {
            return (int) NO_DIFFER;
        }
        long[] sums = new long[2];
        long[] counts = new long[2];
        for (int s = 0; s < state.streets.size(); s++) {
            int side = ring(s) == 0 ? 0 : 1;
            sums[side] += state.streets.get(s)[what];
            counts[side]++;
        }
        Ratio where = Ratio.less(Ratio.of(sums[0], counts[0]), Ratio.of(sums[1], counts[1]));
        return where == null ? 0 : (part == 0 ? where.above : where.below).intValueExact();
    }

    int like(int street) {
        if (!has(street) || !house(street)) {
            return -1;
        }
        int[] own = state.streets.get(street);
        int best = -2;
        int least = 99999;
        for (int s : streetsOf(3)) {
            int[] other = state.streets.get(s);
            int apart = Math.abs(own[0] - other[0]) + Math.abs(own[1] - other[1]);
            if (apart < least) {
                least = apart;
                best = s;
            }
        }
        return best;
    }

    int deeds(int n, int thousandths) {
        if (!in(n, 1, 12) || !in(thousandths, -1000000, 1000000) || state.start == -1) {
            return -1;
        }
        int count = 0;
        for (int deed = 0; deed < 4; deed++) {
            Ratio differ = differ(0, 3, deed, state.start, n);
            count += differ != null && differ.timesDown(1000) <= thousandths ? 1 : 0;
        }
        return count;
    }

    long miss(int law, int from, int to) {
        if (!in(law, 0, laws.size() - 1) || !span(from, to)) {
            return -1;
        }
        long miss = 0;
        for (int s = 0; s < state.streets.size(); s++) {
            for (int week = from; week <= to; week++) {
                Integer n = booked(s, week, 0);
                miss += n == null ? 0 : Math.abs(1000L * n - by(law, s, week, 4));
            }
        }
        return miss;
    }

    int best(int from, int to, int p, int what) {
        if (!span(from, to) || !in(p, 0, 900) || !in(what, 0, 1)) {
            return -2;
        }
        long[] misses = new long[laws.size()];
        for (int i = 0; i < misses.length; i++) {
            misses[i] = miss(i, from, to);
        }
        long least = Arrays.stream(misses).min().orElse(0);
        int bits = 0;
        for (int i = misses.length - 1; i >= 0; i--) {
            bits += misses[i] <= (what == 0 ? least : least * (100 + p) / 100) ? 1 << i : 0;
        }
        return what == 1 ? bits : bits == 0 ? -1 : Integer.numberOfTrailingZeros(bits);
    }

    /** DEEDS drawn by WEEK and STREET; the seed's new state stands behind them. */
    private long[][] drawn(int law, long seed, int from, int to) {
        long x = seed;
        long[][] deeds = new long[to - from + 2][Math.max(1, state.streets.size())];
        for (int week = from; week <= to; week++) {
            for (int s = 0; s < state.streets.size(); s++) {
                x = BigInteger.valueOf(x).multiply(BigInteger.valueOf(1103515245)).add(BigInteger.valueOf(12345))
                        .mod(BigInteger.valueOf(2147483648L)).longValueExact();
                int expected = by(law, s, week, 4);
                deeds[week - from][s] = expected / 1000 + (x / 65536 % 1000 < expected % 1000 ? 1 : 0);
            }
        }
        deeds[to - from + 1][0] = x;
        return deeds;
    }

    int run(int law, int seed, int from, int to, int ring) {
        if (!in(law, 0, laws.size() - 1) || seed < 0 || !span(from, to) || to - from + 1 > 60 || !in(ring, 0, 3)) {
            return -1;
        }
        long[][] deeds = drawn(law, seed, from, to);
        long together = 0;
        for (int s : streetsOf(ring)) {
            for (int week = from; week <= to; week++) {
                together += deeds[week - from][s];
            }
        }
        return (int) together;
    }

    int towns(int law, int seed, int k, int n) {
        if (!in(law, 0, laws.size() - 1) || seed < 0 || !in(k, 1, 12) || !in(n, 1, 60)) {
            return -1;
        }
        Ratio told = state.start == -1 ? null : differ(0, 3, 0, state.start, k);
        if (told == null) {
            return -2;
        }
        long x = seed;
        int count = 0;
        for (int i = 0; i < n; i++) {
            long[][] deeds = drawn(law, x, state.start - k, state.start + k - 1);
            x = deeds[2 * k][0];
            Ratio differ = Ratio.less(drawnChange(deeds, 0, k), drawnChange(deeds, 3, k));
            count += differ.timesDown(1000) <= told.timesDown(1000) ? 1 : 0;
        }
        return count;
    }

    private Ratio drawnChange(long[][] deeds, int ring, int k) {
        long[] sums = new long[2];
        for (int s : streetsOf(ring)) {
            for (int week = 0; week < 2 * k; week++) {
                sums[week / k] += deeds[week][s];
            }
        }
        long each = (long) k * streetsOf(ring).size();
        return Ratio.less(Ratio.of(sums[1], each), Ratio.of(sums[0], each));
    }

    int plan(int m, int week, int one, int other) {
        if (!in(m, 1, 10) || !in(week, 0, 259) || !in(one, 0, laws.size() - 1) || !in(other, 0, laws.size() - 1)
                || one == other) {
            return -1;
        }
        int best = -2;
        long most = -1;
        for (int set = 0; set < 1024; set++) {
            if (Integer.bitCount(set) == m && set < 1 << state.streets.size()) {
                boolean[] men = new boolean[state.streets.size()];
                for (int s = 0; s < men.length; s++) {
                    men[s] = s < 10 && (set >> s & 1) == 1;
                }
                long parted = 0;
                for (int s = 0; s < men.length; s++) {
                    parted += Math.abs(expected(laws.get(one), s, week, men) - expected(laws.get(other), s, week, men));
                }
                if (parted > most) {
                    most = parted;
                    best = set;
                }
            }
        }
        return best;
    }

    int image(int k) {
        if (!in(k, 0, 3)) {
            return -1;
        }
        images[k] = state.copy();
        return state.now;
    }

    int back(int k) {
        if (!in(k, 0, 3) || images[k] == null) {
            return -1;
        }
        state = images[k].copy();
        return state.now;
    }

    int count(int what) {
        int[] counts = {state.now, state.streets.size(), state.beside.size(), state.books.size(), state.films.size(),
            laws.size(), tape.length()};
        return in(what, 0, 6) ? counts[what] : -1;
    }
}
