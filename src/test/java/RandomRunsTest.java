import java.util.Random;

/** Runs of calls drawn from fixed seeds, asked of the class and of its Twin. */
public final class RandomRunsTest {
    private static final int RUNS = 400;
    private static final int CALLS = 400;

    private final Random random;
    private final LawTexts texts;
    private final GuardedStreets x = new GuardedStreets();
    private final Twin twin = new Twin();
    /** How many STREETS and up to which WEEK the run mostly goes. */
    private final int streets;
    private final int weeks;

    private RandomRunsTest(long seed) {
        random = new Random(seed);
        texts = new LawTexts(random);
        streets = 2 + random.nextInt(random.nextInt(4) == 0 ? 23 : 9);
        weeks = 4 + random.nextInt(random.nextInt(4) == 0 ? 256 : 12);
    }

    public static void main(String[] args) {
        for (int run = 0; run < RUNS; run++) {
            new RandomRunsTest(run).goThrough(run);
        }
        Due.end();
    }

    private void goThrough(int run) {
        if (run % 4 != 0) {
            prepare("run " + run + ", ahead: ");
        }
        for (int call = 0; call < CALLS; call++) {
            String which = "run " + run + ", call " + call + ": ";
            int draw = random.nextInt(100);
            if (call < 60 ? draw < 90 : draw < 30) {
                tell(which, random.nextInt(18));
            } else if (draw < 90) {
                ask(which, random.nextInt(17));
            } else {
                Due.due(which + "count", x.count(draw - 90), twin.count(draw - 90));
            }
        }
    }

    /** STREETS of all RINGS, with most of their BOOKS, so that most of what is asked has an answer. */
    private void prepare(String which) {
        Due.due(which + "clock", x.clock(weeks - 1), twin.clock(weeks - 1));
        Due.due(which + "start", x.start(weeks / 2), twin.start(weeks / 2));
        for (int s = 0; s < Math.min(streets, 6); s++) {
            boolean house = s == 0 || s == 4;
            Due.due(which + "street", x.street(9 * s, 7, house), twin.street(9 * s, 7, house));
            if (s == 2 || s == 3) {
                Due.due(which + "beside", x.beside(s, s == 3 ? 2 : 0, true), twin.beside(s, s == 3 ? 2 : 0, true));
            }
            for (int week = 0; week < Math.min(weeks, 14); week++) {
                int deed = random.nextInt(6) == 0 ? 1 : 0;
                int n = random.nextInt(7) - 1;
                int cars = random.nextInt(40) - 1;
                Due.due(which + "book", x.book(s, week, deed, n), twin.book(s, week, deed, n));
                Due.due(which + "film", x.film(s, week, cars), twin.film(s, week, cars));
            }
        }
        law(which);
        law(which);
    }

    /** Mostly below a bound, seldom a little or far beside it. */
    private int upTo(int bound) {
        switch (random.nextInt(40)) {
            case 0: return -1 - random.nextInt(2);
            case 1: return bound + random.nextInt(2);
            case 2: return random.nextBoolean() ? Integer.MIN_VALUE : Integer.MAX_VALUE;
            default: return random.nextInt(bound);
        }
    }

    private int week() {
        return random.nextInt(12) == 0 ? upTo(260) : upTo(weeks);
    }

    private int later(int from) {
        return random.nextInt(10) == 0 ? week() : Math.min(259, Math.max(0, from)) + random.nextInt(6);
    }

    private int length() {
        return random.nextInt(6) == 0 ? upTo(14) : 1 + random.nextInt(3);
    }

    private int aRing() {
        return random.nextInt(2) * 3 + (random.nextInt(4) == 0 ? upTo(4) : 0);
    }

    private void tell(String which, int sort) {
        int a = upTo(streets);
        int b = upTo(streets);
        int week = week();
        int n = upTo(random.nextInt(3) == 0 ? 100 : 6);
        boolean is = random.nextInt(3) == 0;
        switch (sort) {
            case 0:
                if (random.nextInt(6) == 0) {
                    Due.due(which + "clock", x.clock(week), twin.clock(week));
                }
                break;
            case 1:
            case 2:
                int cars = upTo(1000);
                int wish = upTo(1000);
                boolean house = random.nextInt(4) == 0;
                Due.due(which + "street", x.street(cars, wish, house), twin.street(cars, wish, house));
                break;
            case 3:
            case 4:
            case 5:
                Due.due(which + "beside", x.beside(a, b, is), twin.beside(a, b, is));
                break;
            case 6:
                if (random.nextInt(8) == 0) {
                    Due.due(which + "start", x.start(week), twin.start(week));
                }
                break;
            case 7:
                int cars2 = upTo(1000);
                Due.due(which + "film", x.film(a, week, cars2), twin.film(a, week, cars2));
                break;
            case 8:
            case 9:
                law(which);
                break;
            case 10:
                if (random.nextInt(3) == 0) {
                    int k = upTo(4);
                    Due.due(which + "image", x.image(k), twin.image(k));
                } else if (random.nextInt(8) == 0) {
                    int k = upTo(4);
                    Due.due(which + "back", x.back(k), twin.back(k));
                }
                break;
            default:
                int deed = random.nextInt(4) == 0 ? upTo(4) : 0;
                Due.due(which + "book", x.book(a, week, deed, n), twin.book(a, week, deed, n));
                break;
        }
    }

    private void law(String which) {
        String text = random.nextInt(5) == 0 ? texts.oftenWrong() : texts.right();
        text = text.substring(0, Math.min(400, text.length()));
        for (int at = 0; at < text.length(); at += 20) {
            int[] five = new int[5];
            for (int i = 0; i < 20; i++) {
                int c = at + i < text.length() ? text.charAt(at + i) : random.nextInt(256);
                five[i / 4] = five[i / 4] << 8 | c;
            }
            Due.due(which + "feed", x.feed(five[0], five[1], five[2], five[3], five[4]), twin.feed(five));
        }
        if (random.nextInt(30) != 0) {
            Due.due(which + "end", x.end(text.length()), twin.end(text.length()));
        }
        Due.due(which + "law " + text, x.law(), twin.law());
    }

    private void ask(String which, int sort) {
        int a = aRing();
        int b = random.nextInt(6) == 0 ? aRing() : 3 - a;
        int deed = random.nextInt(5) == 0 ? upTo(4) : 0;
        int week = week();
        int n = length();
        int from = week();
        int to = later(from);
        int law = random.nextInt(8) == 0 ? upTo(8) : random.nextInt(3);
        int part = upTo(3);
        int what = upTo(2);
        int seed = random.nextInt(3) == 0 ? upTo(Integer.MAX_VALUE) : random.nextInt(9999);
        int street = upTo(streets);
        switch (sort) {
            case 0:
                Due.due(which + "ring", x.ring(street), twin.ring(street));
                Due.due(which + "like", x.like(street), twin.like(street));
                break;
            case 1:
            case 2:
                int five = upTo(5);
                Due.due(which + "by", x.by(law, street, week, five), twin.by(law, street, week, five));
                break;
            case 3:
                Due.due(which + "share", x.share(a, deed, from, to, what), twin.share(a, deed, from, to, what));
                break;
            case 4:
                Due.due(which + "differ", x.differ(a, b, deed, week, n, part), twin.differ(a, b, deed, week, n, part));
                break;
            case 5:
                Due.due(which + "alike", x.alike(a, b, deed, n, what), twin.alike(a, b, deed, n, what));
                break;
            case 6:
                Due.due(which + "off", x.off(n, what), twin.off(n, what));
                break;
            case 7:
                Due.due(which + "thin", x.thin(n, 1 + part), twin.thin(n, 1 + part));
                break;
            case 8:
                Due.due(which + "cars", x.cars(a, from, to), twin.cars(a, from, to));
                break;
            case 9:
                Due.due(which + "edge", x.edge(n), twin.edge(n));
                break;
            case 10:
                int wage = upTo(10000);
                Due.due(which + "cost", x.cost(n, wage), twin.cost(n, wage));
                break;
            case 11:
                Due.due(which + "where", x.where(what, part), twin.where(what, part));
                break;
            case 12:
                int thousandths = random.nextInt(9) == 0 ? upTo(1000001) : random.nextInt(8000) - 4000;
                Due.due(which + "deeds", x.deeds(n, thousandths), twin.deeds(n, thousandths));
                break;
            case 13:
                Due.due(which + "miss", x.miss(law, from, to), twin.miss(law, from, to));
                break;
            case 14:
                int p = random.nextInt(3) == 0 ? upTo(901) : random.nextInt(90);
                Due.due(which + "best", x.best(from, to, p, what), twin.best(from, to, p, what));
                break;
            case 15:
                Due.due(which + "run", x.run(law, seed, from, to, a), twin.run(law, seed, from, to, a));
                int towns = random.nextInt(4) == 0 ? upTo(61) : 1 + random.nextInt(4);
                Due.due(which + "towns", x.towns(law, seed, n, towns), twin.towns(law, seed, n, towns));
                break;
            default:
                int other = random.nextInt(8) == 0 ? upTo(8) : random.nextInt(4);
                int m = random.nextInt(4) == 0 ? upTo(12) : 1 + random.nextInt(2);
                Due.due(which + "plan", x.plan(m, week, law, other), twin.plan(m, week, law, other));
                break;
        }
    }
}
