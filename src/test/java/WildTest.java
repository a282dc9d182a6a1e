import java.util.Random;

/** Far more calls than the document promises, with wild numbers: none may throw, and a full town must be borne. */
public final class WildTest {
    private static final int[] EDGES = {Integer.MIN_VALUE, Integer.MIN_VALUE + 1, -65536, -261, -2, -1, 0, 1, 2, 3, 4, 7, 8,
        9, 10, 11, 12, 13, 23, 24, 31, 32, 33, 59, 60, 61, 99, 100, 258, 259, 260, 399, 400, 900, 999, 1000, 9999, 65536,
        Integer.MAX_VALUE - 1, Integer.MAX_VALUE};
    private static final String DEAR = "steal 99999 if guard = 0 or ring < 3 and not [cars * wish / since > week]; moves 1000";

    private WildTest() {
    }

    public static void main(String[] args) {
        for (int run = 0; run < 30; run++) {
            wildRun(new Random(run));
        }
        fullTown();
        Due.end();
    }

    private static void wildRun(Random random) {
        GuardedStreets x = new GuardedStreets();
        Due.law(x, DEAR);
        Due.law(x, "steal 5000 - 100 * since; told 0 - 5 / cars");
        for (int i = 0; i < 3000; i++) {
            int[] n = new int[6];
            for (int k = 0; k < n.length; k++) {
                n[k] = random.nextInt(3) == 0 ? EDGES[random.nextInt(EDGES.length)] : random.nextInt(14);
            }
            call(x, random.nextInt(31), n, random.nextBoolean());
        }
        Due.due("still there", x.count(5) >= 2, true);
    }

    private static void call(GuardedStreets x, int which, int[] n, boolean is) {
        switch (which) {
            case 0: x.clock(n[0]); break;
            case 1: x.street(n[0], n[1], is); break;
            case 2: x.beside(n[0], n[1], is); break;
            case 3: x.ring(n[0]); break;
            case 4: x.start(n[0]); break;
            case 5: x.book(n[0], n[1], n[2], n[3]); break;
            case 6: x.film(n[0], n[1], n[2]); break;
            case 7: x.feed(n[0], n[1], n[2], n[3], n[4]); break;
            case 8: x.end(n[0]); break;
            case 9: x.law(); break;
            case 10: x.by(n[0], n[1], n[2], n[3]); break;
            case 11: x.share(n[0], n[1], n[2], n[3], n[4]); break;
            case 12: x.differ(n[0], n[1], n[2], n[3], n[4], n[5]); break;
            case 13: x.alike(n[0], n[1], n[2], n[3], n[4]); break;
            case 14: x.off(n[0], n[1]); break;
            case 15: x.thin(n[0], n[1]); break;
            case 16: x.cars(n[0], n[1], n[2]); break;
            case 17: x.edge(n[0]); break;
            case 18: x.cost(n[0], n[1]); break;
            case 19: x.where(n[0], n[1]); break;
            case 20: x.like(n[0]); break;
            case 21: x.deeds(n[0], n[1]); break;
            case 22: x.miss(n[0], n[1], n[2]); break;
            case 23: x.best(n[0], n[1], n[2], n[3]); break;
            case 24: x.run(n[0], n[1], n[2], n[3], n[4]); break;
            case 25: x.towns(n[0], n[1], n[2], n[3]); break;
            case 26: x.plan(n[0], n[1], n[2], n[3]); break;
            case 27: x.image(n[0]); break;
            case 28: x.back(n[0]); break;
            default: x.count(n[0]); break;
        }
    }

    /** 24 STREETS all BESIDE one another, with the most that may be stolen going next door. */
    private static void fullTown() {
        GuardedStreets x = new GuardedStreets();
        x.clock(259);
        for (int s = 0; s < 24; s++) {
            x.street(999, 999, s > 0);
            for (int other = 0; other < s; other++) {
                x.beside(s, other, true);
            }
        }
        x.start(130);
        for (int week = 0; week < 260; week++) {
            x.book(0, week, 0, 99);
            x.book(23, week, 3, 99);
        }
        Due.law(x, "steal 99999 if guard = 0; moves 1000");
        Due.law(x, "steal 99999 if guard = 0");
        Due.due("all goes to the one without a MAN", x.by(0, 0, 130, 4), 24L * 99999);
        Due.due("ahead of START", x.by(0, 0, 129, 4), 99999);
        Due.due("miss", x.miss(0, 0, 259), 130L * 999 + 130L * (24 * 99999 - 99000));
        Due.due("best", x.best(0, 259, 900, 0), 1);
        Due.due("still", x.best(0, 259, 900, 1), 2);
        Due.due("run", x.run(0, 1, 130, 189, 0), 0);
        Due.due("pairs", x.count(2), 276);
        Due.due("plan", x.plan(5, 200, 0, 1), 31);
        Due.due("towns", x.towns(0, 1, 12, 60), -2);
        x.street(0, 0, false);
        Due.due("BOOKS", x.count(3), 520);
        for (int k = 0; k < 4; k++) {
            Due.due("image", x.image(k), 259);
            Due.due("back", x.back(k), 259);
        }
        Due.due("STREETS", x.count(1), 24);
    }
}
