/** Part V, promises 24 to 30: of each sentence that names a boundary case a test of its own. */
public final class DrawBoundariesTest {
    private static final int LEAST = Integer.MIN_VALUE;
    private static final int MOST = Integer.MAX_VALUE;
    private static final int NONE = GuardedStreets.NONE;
    private static final int[] NO_WEEK = {-1, 260, LEAST, MOST};
    private static final int[] NO_LAW = {-1, 2, 8, LEAST, MOST};

    private DrawBoundariesTest() {
    }

    public static void main(String[] args) {
        missWithoutSign();
        missOfBooksOfDeedZero();
        missOfABookOfNone();
        missWithoutBooks();
        missFromAndToCount();
        missOfTheMost();
        missFromAboveTo();
        missWithoutThese();
        bestOfSeveralTheLeast();
        bestOfEightLaws();
        bestWithoutLaws();
        bestWithoutBooks();
        stillByNothing();
        stillDownwards();
        stillByTheMost();
        stillOfLeastZero();
        bestOfTooSmallOrTooGreatP();
        bestFromAboveTo();
        bestWithoutThese();
        runBelowTheRest();
        runDownwards();
        runTheRestOf2147483648();
        runOfTheLeastAndTheMostSeed();
        runOfNoSeed();
        runWeekByWeekStreetByStreet();
        runOfARingTogether();
        runOfSixtyWeeks();
        runFromAboveTo();
        runWithoutThese();
        townsInThousandths();
        townsNotAbove();
        townsOneBehindTheOther();
        townsOfTheMost();
        townsOverTwelve();
        townsWithoutStart();
        townsWithoutADiffer();
        townsWithoutStreets();
        townsFromBelowZero();
        townsToAbove259();
        townsOfTooFewOrTooMany();
        townsOfNoLength();
        townsWithoutThese();
        planOfTheLeastNumber();
        planWithoutSign();
        planOfOneToTenMen();
        planOfTooFewOrTooManyMen();
        planOfStreetsZeroToNine();
        planWithFewerStreets();
        planWithoutStreets();
        planOfLikeLaws();
        planOfMenInJustThose();
        planOfMenInNoneFromTenOn();
        planWhoMayBeGoneTo();
        planRingAsItIs();
        planWithoutThese();
        imageOfAnother();
        imageWhereNothingWasTold();
        imageMadeAnew();
        imageOfAFullTown();
        backAsTheyWere();
        backToFewerStreets();
        backToStreetsWhoseNumbersOthersTook();
        aStreetWhoseNumberAnotherHad();
        backLeavesLawsAndTape();
        backToNeverMade();
        backWithoutIt();
        backAgainAndAgain();
        askingChangesNothing();
        Due.end();
    }

    private static void about(String sentence) {
        Due.about(sentence);
    }

    private static void due(String call, long got, long want) {
        Due.due(call, got, want);
    }

    private static GuardedStreets withLaws(GuardedStreets x, String... texts) {
        for (String text : texts) {
            due("law of '" + text + "'", Due.law(x, text), x.count(5) - 1);
        }
        return x;
    }

    /** STREET 0 with a house, STREET 1 of RING 3; NOW is the last WEEK. */
    private static GuardedStreets twoStreets() {
        GuardedStreets x = new GuardedStreets();
        x.clock(259);
        x.street(10, 10, true);
        x.street(20, 20, false);
        return x;
    }

    private static void missWithoutSign() {
        about("24: MISS: a thousand times that less EXPECTED, without sign, together");
        GuardedStreets x = withLaws(twoStreets(), "steal 2500", "steal 3000");
        Made.book(x, 0, 0, 0, 2, 3);
        due("fewer", x.miss(0, 0, 0), 500);
        due("more", x.miss(0, 1, 1), 500);
        due("both", x.miss(0, 0, 1), 1000);
        due("none", x.miss(1, 1, 1), 0);
    }

    private static void missOfBooksOfDeedZero() {
        about("24: of all STREETS and WEEKS with a BOOK of DEED 0");
        GuardedStreets x = withLaws(twoStreets(), "steal 2500");
        for (int deed = 1; deed < 4; deed++) {
            x.book(0, 0, deed, 9);
        }
        due("other DEEDS", x.miss(0, 0, 259), 0);
        x.book(1, 5, 0, 2);
        due("of DEED 0", x.miss(0, 0, 259), 500);
        x.book(0, 5, 0, 2);
        due("of both STREETS", x.miss(0, 0, 259), 1000);
    }

    private static void missOfABookOfNone() {
        about("24: a BOOK that tells of 0 is not one that tells nothing");
        GuardedStreets x = withLaws(twoStreets(), "steal 2500");
        x.book(0, 0, 0, 0);
        due("of 0", x.miss(0, 0, 0), 2500);
        x.book(0, 0, 0, NONE);
        due("of nothing", x.miss(0, 0, 0), 0);
    }

    private static void missWithoutBooks() {
        about("24: MISS without BOOKS, without STREETS");
        due("without BOOKS", withLaws(twoStreets(), "steal 2500").miss(0, 0, 259), 0);
        due("without STREETS", withLaws(new GuardedStreets(), "steal 2500").miss(0, 0, 259), 0);
    }

    private static void missFromAndToCount() {
        about("24: from a WEEK to another one");
        GuardedStreets x = withLaws(twoStreets(), "steal 0");
        x.book(0, 0, 0, 1);
        x.book(0, 1, 0, 2);
        x.book(0, 258, 0, 4);
        x.book(0, 259, 0, 8);
        due("0 to 259", x.miss(0, 0, 259), 15000);
        due("1 to 258", x.miss(0, 1, 258), 6000);
        due("0 to 0", x.miss(0, 0, 0), 1000);
        due("259 to 259", x.miss(0, 259, 259), 8000);
    }

    private static void missOfTheMost() {
        about("24: MISS of the most that may be");
        GuardedStreets x = withLaws(new GuardedStreets(), "steal 99999 if guard = 0; moves 1000");
        x.clock(259);
        for (int s = 0; s < 24; s++) {
            x.street(1, 1, s > 0);
            x.beside(0, s, true);
        }
        x.start(0);
        for (int week = 0; week < 260; week++) {
            x.book(0, week, 0, 0);
        }
        due("260 times", x.miss(0, 0, 259), 260L * 24 * 99999);
    }

    private static void missFromAboveTo() {
        about("24: NONE (from above to, too)");
        GuardedStreets x = withLaws(twoStreets(), "steal 1");
        x.book(0, 0, 0, 0);
        due("from 1 to 0", x.miss(0, 1, 0), -1);
        due("from 259 to 0", x.miss(0, 259, 0), -1);
        due("from 0 to 0", x.miss(0, 0, 0), 1);
    }

    private static void missWithoutThese() {
        about("24: NONE without these");
        GuardedStreets x = withLaws(twoStreets(), "steal 1", "steal 2");
        for (int law : NO_LAW) {
            due("LAW " + law, x.miss(law, 0, 1), -1);
        }
        for (int week : NO_WEEK) {
            due("from " + week, x.miss(0, week, 259), -1);
            due("to " + week, x.miss(0, 0, week), -1);
        }
        due("no LAWS", twoStreets().miss(0, 0, 1), -1);
    }

    /** STREET 0 has a BOOK of 2 in WEEK 0. */
    private static GuardedStreets bookOfTwo() {
        GuardedStreets x = twoStreets();
        x.book(0, 0, 0, 2);
        return x;
    }

    private static void bestOfSeveralTheLeast() {
        about("25: BEST: the LAW with the least MISS, of several the least");
        GuardedStreets x = withLaws(bookOfTwo(), "steal 5000", "steal 2500", "steal 1500");
        due("of two", x.best(0, 0, 0, 0), 1);
        withLaws(x, "steal 2499", "steal 1501");
        due("a lesser one", x.best(0, 0, 0, 0), 3);
        withLaws(x, "steal 2000");
        due("none missed", x.best(0, 0, 0, 0), 5);
    }

    private static void bestOfEightLaws() {
        about("25: BEST of 8 LAWS, STILL as bits");
        GuardedStreets x = bookOfTwo();
        for (int i = 0; i < 8; i++) {
            withLaws(x, "steal " + (10000 - 1000 * i));
        }
        due("the last", x.best(0, 0, 0, 0), 7);
        due("the last, as bits", x.best(0, 0, 0, 1), 128);
        due("by 100", x.best(0, 0, 100, 1), 128 + 64);
        due("by 700", x.best(0, 0, 700, 1), 255);
    }

    private static void bestWithoutLaws() {
        about("25: what 0: NONE without LAWS; what 1: 0 without LAWS");
        due("what 0", bookOfTwo().best(0, 0, 0, 0), -1);
        due("what 1", bookOfTwo().best(0, 0, 0, 1), 0);
        due("what 1 by 900", bookOfTwo().best(0, 0, 900, 1), 0);
        due("of a new object", new GuardedStreets().best(0, 259, 0, 0), -1);
    }

    private static void bestWithoutBooks() {
        about("25: BEST without BOOKS: all miss 0");
        GuardedStreets x = withLaws(bookOfTwo(), "steal 5000", "steal 2500", "steal 1500");
        due("BEST", x.best(1, 259, 0, 0), 0);
        due("STILL", x.best(1, 259, 0, 1), 7);
        due("without STREETS", withLaws(new GuardedStreets(), "steal 1").best(0, 0, 0, 1), 1);
    }

    private static void stillByNothing() {
        about("25: STILL by p (0 to 900): 0");
        GuardedStreets x = withLaws(bookOfTwo(), "steal 2501", "steal 2500", "steal 1500");
        due("STILL by 0", x.best(0, 0, 0, 1), 2 + 4);
    }

    private static void stillDownwards() {
        about("25: not above the least times (100 + p) by 100, downwards");
        // 199 times 1.01 is 200.99.
        GuardedStreets x = withLaws(bookOfTwo(), "steal 2199", "steal 2200", "steal 2201");
        due("by 0", x.best(0, 0, 0, 1), 1);
        due("by 1", x.best(0, 0, 1, 1), 1 + 2);
        due("by 2", x.best(0, 0, 2, 1), 1 + 2 + 4);
    }

    private static void stillByTheMost() {
        about("25: STILL by p (0 to 900): 900");
        GuardedStreets x = withLaws(bookOfTwo(), "steal 2100", "steal 3000", "steal 3001");
        due("by 900", x.best(0, 0, 900, 1), 1 + 2);
        due("by 899", x.best(0, 0, 899, 1), 1);
    }

    private static void stillOfLeastZero() {
        about("25: STILL if the least is 0");
        GuardedStreets x = withLaws(bookOfTwo(), "steal 2001", "steal 2000");
        due("by 900", x.best(0, 0, 900, 1), 2);
    }

    private static void bestOfTooSmallOrTooGreatP() {
        about("25: -2 without these: p (0 to 900)");
        GuardedStreets x = withLaws(bookOfTwo(), "steal 2001");
        int[] none = {-1, 901, LEAST, MOST};
        for (int p : none) {
            due("p " + p, x.best(0, 0, p, 1), -2);
            due("p " + p + ", what 0", x.best(0, 0, p, 0), -2);
        }
    }

    private static void bestFromAboveTo() {
        about("25: -2 without these: from above to");
        GuardedStreets x = withLaws(bookOfTwo(), "steal 2001");
        due("from 1 to 0", x.best(1, 0, 0, 0), -2);
        due("from 1 to 0, what 1", x.best(1, 0, 0, 1), -2);
        due("without LAWS", bookOfTwo().best(1, 0, 0, 0), -2);
    }

    private static void bestWithoutThese() {
        about("25: -2 without these");
        GuardedStreets x = withLaws(bookOfTwo(), "steal 2001");
        for (int week : NO_WEEK) {
            due("from " + week, x.best(week, 259, 0, 0), -2);
            due("to " + week, x.best(0, week, 0, 0), -2);
        }
        int[] none = {-1, 2, LEAST, MOST};
        for (int what : none) {
            due("what " + what, x.best(0, 0, 0, what), -2);
        }
        due("what 2 without LAWS", bookOfTwo().best(0, 0, 0, 2), -2);
    }

    /** The draws of the document: what x / 65536 mod 1000 is, by turns. */
    private static final class Drawn {
        private long x;

        Drawn(int seed) {
            x = seed;
        }

        int next() {
            x = (x * 1103515245L + 12345L) % 2147483648L;
            return (int) (x / 65536 % 1000);
        }
    }

    private static GuardedStreets oneHouse(String... laws) {
        GuardedStreets x = new GuardedStreets();
        x.street(1, 1, true);
        return withLaws(x, laws);
    }

    private static void runBelowTheRest() {
        about("26: and 1 more if x / 65536 mod 1000 is below the rest");
        Drawn drawn = new Drawn(5);
        int first = drawn.next();
        GuardedStreets x = oneHouse("steal " + first, "steal " + (first + 1), "steal 0", "steal 7000", "steal 7999", "steal 3001");
        due("the draw itself", x.run(0, 5, 0, 0, 0), 0);
        due("one more", x.run(1, 5, 0, 0, 0), 1);
        due("nothing is below 0", x.run(2, 0, 0, 0, 0), 0);
        due("no rest", x.run(3, 0, 0, 0, 0), 7);
        due("0 is below 999", x.run(4, 0, 0, 0, 0), 8);
        due("0 is below 1", x.run(5, 0, 0, 0, 0), 4);
    }

    private static void runDownwards() {
        about("26: DEEDS: EXPECTED by 1000, downwards");
        // The second draw of seed 0 is 468.
        GuardedStreets x = oneHouse("steal 3469 if week = 1", "steal 3468 if week = 1", "steal 99999 if week = 1");
        due("3469", x.run(0, 0, 0, 1, 0), 4);
        due("3468", x.run(1, 0, 0, 1, 0), 3);
        due("99999", x.run(2, 0, 0, 1, 0), 100);
    }

    private static void runTheRestOf2147483648() {
        about("26: x becomes x * 1103515245 + 12345, of 2147483648 the rest");
        GuardedStreets x = oneHouse("steal 500");
        int[] seeds = {0, 1, 2, 65536, 1103515245, 2147483646, 2147483647};
        for (int seed : seeds) {
            Drawn drawn = new Drawn(seed);
            int together = 0;
            for (int week = 0; week < 60; week++) {
                together += drawn.next() < 500 ? 1 : 0;
                due("seed " + seed + " to WEEK " + week, x.run(0, seed, 0, week, 0), together);
            }
        }
    }

    private static void runOfTheLeastAndTheMostSeed() {
        about("26: a seed (0 to 2147483647)");
        GuardedStreets x = oneHouse("steal 500", "steal 12000");
        due("seed 0", x.run(0, 0, 0, 0, 0), 1);
        due("seed 2147483647", x.run(0, MOST, 0, 0, 0), new Drawn(MOST).next() < 500 ? 1 : 0);
        due("seed 2147483647, whole ones", x.run(1, MOST, 0, 0, 0), 12);
    }

    private static void runOfNoSeed() {
        about("26: NONE without these: a seed below 0");
        GuardedStreets x = oneHouse("steal 500");
        due("seed -1", x.run(0, -1, 0, 0, 0), -1);
        due("seed least", x.run(0, LEAST, 0, 0, 0), -1);
    }

    private static void runWeekByWeekStreetByStreet() {
        about("26: WEEK by WEEK, STREET by STREET");
        GuardedStreets x = withLaws(twoStreets(), "steal 500");
        Drawn drawn = new Drawn(3);
        int[] together = new int[2];
        for (int week = 0; week < 30; week++) {
            for (int s = 0; s < 2; s++) {
                together[s] += drawn.next() < 500 ? 1 : 0;
            }
            due("RING 0 to " + week, x.run(0, 3, 0, week, 0), together[0]);
            due("RING 3 to " + week, x.run(0, 3, 0, week, 3), together[1]);
        }
    }

    private static void runOfARingTogether() {
        about("26: of a RING together");
        GuardedStreets x = withLaws(Made.fiveStreets(), "steal 1000 * street + 1000");
        int[] want = {1, 2, 3, 4 + 5};
        for (int ring = 0; ring < 4; ring++) {
            due("RING " + ring, x.run(0, 0, 0, 0, ring), want[ring]);
        }
        due("without STREETS", withLaws(new GuardedStreets(), "steal 1000").run(0, 0, 0, 59, 0), 0);
        due("a RING without STREETS", withLaws(twoStreets(), "steal 1000").run(0, 0, 0, 59, 1), 0);
    }

    private static void runOfSixtyWeeks() {
        about("26: NONE (60 WEEKS at most)");
        GuardedStreets x = oneHouse("steal 1000");
        due("60 WEEKS", x.run(0, 0, 0, 59, 0), 60);
        due("61 WEEKS", x.run(0, 0, 0, 60, 0), -1);
        due("the last 60", x.run(0, 0, 200, 259, 0), 60);
        due("the last 61", x.run(0, 0, 199, 259, 0), -1);
        due("all WEEKS", x.run(0, 0, 0, 259, 0), -1);
        due("one WEEK", x.run(0, 0, 259, 259, 0), 1);
    }

    private static void runFromAboveTo() {
        about("26: NONE without these: from above to");
        GuardedStreets x = oneHouse("steal 1000");
        due("from 1 to 0", x.run(0, 0, 1, 0, 0), -1);
        due("from 259 to 0", x.run(0, 0, 259, 0, 0), -1);
        due("from 1 to 1", x.run(0, 0, 1, 1, 0), 1);
    }

    private static void runWithoutThese() {
        about("26: NONE without these");
        GuardedStreets x = oneHouse("steal 1000", "steal 2000");
        for (int law : NO_LAW) {
            due("LAW " + law, x.run(law, 0, 0, 0, 0), -1);
        }
        due("from -1", x.run(0, 0, -1, 0, 0), -1);
        due("to 260", x.run(0, 0, 259, 260, 0), -1);
        due("from 260", x.run(0, 0, 260, 260, 0), -1);
        due("from least", x.run(0, 0, LEAST, 0, 0), -1);
        due("to most", x.run(0, 0, 0, MOST, 0), -1);
        due("from least to most", x.run(0, 0, LEAST, MOST, 0), -1);
        int[] noRing = {-1, 4, LEAST, MOST};
        for (int ring : noRing) {
            due("RING " + ring, x.run(0, 0, 0, 0, ring), -1);
        }
    }

    private static void townsInThousandths() {
        about("27: the DIFFER by these, in thousandths, is not above that by the BOOKS");
        GuardedStreets x = new GuardedStreets();
        x.clock(259);
        for (int s = 0; s < 6; s++) {
            x.street(1, 1, s == 0);
            for (int week = 0; week < 24; week++) {
                if (s != 5 || week != 11) {
                    x.book(s, week, 0, s > 0 && week < 12 && (s != 5 || week != 10) ? 1 : 0);
                }
            }
        }
        x.start(12);
        // By the BOOKS 58/59, in the towns 59/60, which is more, but in thousandths the same.
        due("by the BOOKS", x.differ(0, 3, 0, 12, 12, 0), 58);
        due("by the BOOKS, in thousandths", x.differ(0, 3, 0, 12, 12, 2), 983);
        withLaws(x, "steal 0 if house = 1 or week > 11 or street = 5 and week = 11; steal 1000");
        withLaws(x, "steal 0 if house = 1 or week > 11; steal 1000");
        due("983 thousandths", x.towns(0, 0, 12, 5), 5);
        due("1000 thousandths", x.towns(1, 0, 12, 5), 0);
    }

    /** START is 1; BOOKS of STREET 0 in WEEKS 0 and 1, of STREET 1 none stolen. */
    private static GuardedStreets atOne(int ahead, int since) {
        GuardedStreets x = twoStreets();
        x.start(1);
        Made.book(x, 0, 0, 0, ahead, since);
        Made.book(x, 1, 0, 0, 0, 0);
        return x;
    }

    private static void townsNotAbove() {
        about("27: in how many the DIFFER is not above that by the BOOKS");
        // In the towns it is -2.
        String law = "steal 5000 - 2000 * guard if house = 1";
        due("-1 by the BOOKS", withLaws(atOne(5, 4), law).towns(0, 0, 1, 9), 9);
        due("-2 by the BOOKS", withLaws(atOne(5, 3), law).towns(0, 0, 1, 9), 9);
        due("-3 by the BOOKS", withLaws(atOne(5, 2), law).towns(0, 0, 1, 9), 0);
    }

    private static void townsOneBehindTheOther() {
        about("27: one behind the other (the seed goes on)");
        GuardedStreets x = withLaws(atOne(1, 1), "steal 500");
        Drawn drawn = new Drawn(9);
        int notAbove = 0;
        for (int n = 1; n <= 60; n++) {
            int[] ahead = {drawn.next() < 500 ? 1 : 0, drawn.next() < 500 ? 1 : 0};
            int[] since = {drawn.next() < 500 ? 1 : 0, drawn.next() < 500 ? 1 : 0};
            notAbove += since[0] - ahead[0] - since[1] + ahead[1] <= 0 ? 1 : 0;
            due("towns of " + n, x.towns(0, 9, 1, n), notAbove);
        }
    }

    private static void townsOfTheMost() {
        about("27: n of them (1 to 60), a seed (0 to 2147483647)");
        GuardedStreets x = withLaws(atOne(1, 1), "steal 1000");
        due("n 1", x.towns(0, 0, 1, 1), 1);
        due("n 60", x.towns(0, 0, 1, 60), 60);
        due("seed 2147483647", x.towns(0, MOST, 1, 60), 60);
    }

    private static void townsOverTwelve() {
        about("27: from WEEK START - k to START + k - 1 (k 1 to 12): 12");
        GuardedStreets x = twoStreets();
        x.start(12);
        Made.book(x, 0, 0, 0, new int[24]);
        Made.book(x, 1, 0, 0, new int[24]);
        withLaws(x, "steal 1000 if week = 0 and house = 1", "steal 1000 if week = 23 and house = 1");
        withLaws(x, "steal 1000 if week = 24 and house = 1");
        due("fewer since", x.towns(0, 0, 12, 4), 4);
        due("more since", x.towns(1, 0, 12, 4), 0);
        due("behind the last WEEK", x.towns(2, 0, 12, 4), 4);
        due("over 11, not WEEK 23", x.towns(1, 0, 11, 4), 4);
    }

    private static void townsWithoutStart() {
        about("27: -2: no START");
        GuardedStreets x = withLaws(atOne(1, 1), "steal 1000");
        x.start(NONE);
        due("towns", x.towns(0, 0, 1, 1), -2);
    }

    private static void townsWithoutADiffer() {
        about("27: -2: no DIFFER by the BOOKS");
        for (int street = 0; street < 2; street++) {
            for (int week = 0; week < 2; week++) {
                GuardedStreets x = withLaws(atOne(1, 1), "steal 1000");
                x.book(street, week, 0, NONE);
                due("without STREET " + street + " in " + week, x.towns(0, 0, 1, 1), -2);
            }
        }
        GuardedStreets y = withLaws(twoStreets(), "steal 1000");
        y.start(1);
        due("without BOOKS", y.towns(0, 0, 1, 1), -2);
    }

    private static void townsWithoutStreets() {
        about("27: -2: none by RINGS that have no STREETS");
        GuardedStreets x = withLaws(atOne(1, 1), "steal 1000");
        x.beside(0, 1, true);
        due("none of RING 3", x.towns(0, 0, 1, 1), -2);
        GuardedStreets y = withLaws(new GuardedStreets(), "steal 1000");
        y.start(1);
        due("no STREETS", y.towns(0, 0, 1, 1), -2);
        y.street(1, 1, false);
        due("none of RING 0", y.towns(0, 0, 1, 1), -2);
    }

    private static void townsFromBelowZero() {
        about("27: (START - k below 0: -2)");
        GuardedStreets x = withLaws(atOne(1, 1), "steal 1000");
        due("START - k 0", x.towns(0, 0, 1, 1), 1);
        due("START - k -1", x.towns(0, 0, 2, 1), -2);
        due("START - k -11", x.towns(0, 0, 12, 1), -2);
        x.start(0);
        due("START 0", x.towns(0, 0, 1, 1), -2);
    }

    private static void townsToAbove259() {
        about("27: (START + k - 1 above 259: -2)");
        GuardedStreets x = withLaws(twoStreets(), "steal 1000");
        Made.book(x, 0, 256, 0, 1, 1, 1, 1);
        Made.book(x, 1, 256, 0, 1, 1, 1, 1);
        x.start(258);
        due("START + k - 1 259", x.towns(0, 0, 2, 1), 1);
        due("START + k - 1 260", x.towns(0, 0, 3, 1), -2);
        x.start(259);
        due("START 259", x.towns(0, 0, 1, 1), 1);
        due("START 259, k 2", x.towns(0, 0, 2, 1), -2);
        due("START 259, k 12", x.towns(0, 0, 12, 1), -2);
    }

    private static void townsOfTooFewOrTooMany() {
        about("27: NONE without these: n (1 to 60)");
        GuardedStreets x = withLaws(atOne(1, 1), "steal 1000");
        int[] none = {0, 61, -1, LEAST, MOST};
        for (int n : none) {
            due("n " + n, x.towns(0, 0, 1, n), -1);
        }
        x.start(NONE);
        due("also without START", x.towns(0, 0, 1, 61), -1);
    }

    private static void townsOfNoLength() {
        about("27: NONE without these: k (1 to 12)");
        GuardedStreets x = withLaws(atOne(1, 1), "steal 1000");
        int[] none = {0, 13, -1, LEAST, MOST};
        for (int k : none) {
            due("k " + k, x.towns(0, 0, k, 1), -1);
        }
    }

    private static void townsWithoutThese() {
        about("27: NONE without these: the LAW, the seed");
        GuardedStreets x = withLaws(atOne(1, 1), "steal 1000", "steal 1000");
        for (int law : NO_LAW) {
            due("LAW " + law, x.towns(law, 0, 1, 1), -1);
        }
        due("seed -1", x.towns(0, -1, 1, 1), -1);
        due("seed least", x.towns(0, LEAST, 1, 1), -1);
    }

    /** STREETS with houses all, and so many of them. */
    private static GuardedStreets houses(int n) {
        GuardedStreets x = new GuardedStreets();
        for (int s = 0; s < n; s++) {
            x.street(1, 1, true);
        }
        return x;
    }

    private static void planOfTheLeastNumber() {
        about("28: of several the least as a number");
        GuardedStreets x = withLaws(houses(10), "steal 1000", "steal 1000 if guard = 0");
        int set = 0;
        for (int m = 1; m <= 10; m++) {
            set = 2 * set + 1;
            due(m + " MEN", x.plan(m, 0, 0, 1), set);
        }
        withLaws(x, "steal 1000 if guard = 0 or street < 3");
        due("from 3 on", x.plan(2, 0, 0, 2), 8 + 16);
        GuardedStreets y = withLaws(houses(4), "steal 7", "steal 7;told 1000");
        due("none parts them", y.plan(3, 0, 0, 1), 7);
    }

    private static void planWithoutSign() {
        about("28: EXPECTED by the one less that by the other, without sign, of all STREETS together");
        GuardedStreets x = withLaws(houses(3), "steal 500", "steal 500 + 300 * guard - 400 * guard * street");
        // 300, 100 and 500 apart.
        due("one MAN", x.plan(1, 0, 0, 1), 4);
        due("one MAN, the other way round", x.plan(1, 0, 1, 0), 4);
        due("two MEN", x.plan(2, 0, 0, 1), 1 + 4);
        due("two MEN, the other way round", x.plan(2, 0, 1, 0), 1 + 4);
    }

    private static void planOfOneToTenMen() {
        about("28: PLAN of m MEN (1 to 10)");
        GuardedStreets x = withLaws(houses(24), "steal 1000", "steal 1000 - 10 * street if guard = 1; steal 1000");
        due("1", x.plan(1, 0, 0, 1), 512);
        due("9", x.plan(9, 0, 0, 1), 1022);
        due("10", x.plan(10, 0, 0, 1), 1023);
        due("WEEK 259", x.plan(10, 259, 0, 1), 1023);
    }

    private static void planOfTooFewOrTooManyMen() {
        about("28: NONE without these: m (1 to 10)");
        GuardedStreets x = withLaws(houses(24), "steal 1000", "steal 2000");
        int[] none = {0, 11, -1, LEAST, MOST};
        for (int m : none) {
            due("m " + m, x.plan(m, 0, 0, 1), -1);
        }
    }

    private static void planOfStreetsZeroToNine() {
        about("28: among STREETS 0 to 9");
        GuardedStreets x = withLaws(houses(12), "steal 1000", "steal 1000 - 50 * street * guard");
        due("one MAN", x.plan(1, 0, 0, 1), 512);
        due("two MEN", x.plan(2, 0, 0, 1), 512 + 256);
        withLaws(x, "steal 0 if guard = 0 and street > 9; steal 1000");
        // What lies apart in 10 and 11 is of all sets the same.
        due("no MEN from 10 on", x.plan(1, 0, 0, 2), 1);
        withLaws(x, "steal 1000 if street > 9 or guard = 0; steal 900");
        due("STREETS 10 and 11 count, too", x.plan(1, 0, 2, 3), 1);
    }

    private static void planWithFewerStreets() {
        about("28: -2: fewer than m STREETS (of 0 to 9)");
        for (int n = 1; n < 12; n++) {
            GuardedStreets x = withLaws(houses(n), "steal 1000", "steal 2000");
            for (int m = 1; m <= 10; m++) {
                due(m + " MEN among " + n, x.plan(m, 0, 0, 1), m > n ? -2 : (1 << m) - 1);
            }
        }
    }

    private static void planWithoutStreets() {
        about("28: -2: fewer than m STREETS: none");
        GuardedStreets x = withLaws(new GuardedStreets(), "steal 1000", "steal 2000");
        due("one MAN", x.plan(1, 0, 0, 1), -2);
        due("ten MEN", x.plan(10, 0, 0, 1), -2);
        due("eleven MEN", x.plan(11, 0, 0, 1), -1);
    }

    private static void planOfLikeLaws() {
        about("28: by two unlike LAWS");
        GuardedStreets x = withLaws(houses(3), "steal 1000", "steal 1000");
        due("0 and 0", x.plan(1, 0, 0, 0), -1);
        due("1 and 1", x.plan(1, 0, 1, 1), -1);
        due("0 and 1, of one text", x.plan(1, 0, 0, 1), 1);
    }

    private static void planOfMenInJustThose() {
        about("28: as if MEN stood in just those of a set");
        GuardedStreets x = new GuardedStreets();
        x.street(1, 1, true);
        x.street(1, 1, false);
        x.street(1, 1, false);
        x.start(0);
        withLaws(x, "steal 1000", "steal 1000 - 100 * street * guard - guard");
        due("not by houses", x.plan(1, 5, 0, 1), 4);
        withLaws(x, "steal 1000 - 300 * guard if house = 1; steal 1000 - 200 * guard");
        due("the house has none of itself", x.plan(1, 5, 0, 2), 1);
        due("two", x.plan(2, 5, 0, 2), 3);
        x.start(200);
        due("also ahead of START", x.plan(1, 5, 0, 2), 1);
        x.start(NONE);
        due("also without START", x.plan(1, 5, 0, 2), 1);
    }

    private static void planOfMenInNoneFromTenOn() {
        about("28: as if MEN stood in just those of a set: in none of the STREETS from 10 on");
        GuardedStreets x = withLaws(houses(11), "steal 1000 if guard = 0; moves 1000", "steal 1000 if guard = 0");
        x.start(0);
        x.beside(9, 10, true);
        due("9, from which all goes to 10", x.plan(1, 5, 0, 1), 512);
    }

    private static void planWhoMayBeGoneTo() {
        about("28: (guard, and who may be gone to)");
        GuardedStreets x = new GuardedStreets();
        for (int s = 0; s < 4; s++) {
            x.street(1, 1, false);
        }
        x.beside(2, 3, true);
        x.beside(1, 2, true);
        withLaws(x, "steal 1000 if guard = 0; moves 1000", "steal 1000 if guard = 0");
        due("one MAN", x.plan(1, 0, 0, 1), 2);
        // From 1 and from 3 all goes to 2; with a MAN in 2 and one BESIDE it, half as much goes next door.
        due("two MEN", x.plan(2, 0, 0, 1), 2 + 8);
        due("three MEN", x.plan(3, 0, 0, 1), 1 + 2 + 8);
        due("four MEN", x.plan(4, 0, 0, 1), 15);
    }

    private static void planRingAsItIs() {
        about("28: ring and all else as it is");
        GuardedStreets x = withLaws(Made.fiveStreets(), "steal 0");
        withLaws(x, "steal 1000 * guard * ring - guard * street");
        due("RING 3, the first of them", x.plan(1, 0, 0, 1), 8);
        withLaws(x, "steal 100 * guard * since", "steal 100 * guard * since + guard * street * since");
        due("since without START", x.plan(1, 9, 2, 3), 1);
        x.start(8);
        due("since START", x.plan(1, 9, 2, 3), 16);
        due("at START", x.plan(1, 8, 2, 3), 1);
    }

    private static void planWithoutThese() {
        about("28: NONE without these");
        GuardedStreets x = withLaws(houses(3), "steal 1000", "steal 2000");
        for (int law : NO_LAW) {
            due("LAWS " + law + " and 0", x.plan(1, 0, law, 0), -1);
            due("LAWS 0 and " + law, x.plan(1, 0, 0, law), -1);
        }
        for (int week : NO_WEEK) {
            due("WEEK " + week, x.plan(1, week, 0, 1), -1);
        }
        due("also with too few STREETS", x.plan(4, 260, 0, 1), -1);
    }

    private static void imageOfAnother() {
        about("29: NONE for another k (IMAGES 0 to 3)");
        GuardedStreets x = Made.busy();
        String before = State.of(x);
        int[] none = {-1, 4, LEAST, MOST};
        for (int k : none) {
            due("image(" + k + ")", x.image(k), -1);
        }
        for (int k = 0; k < 4; k++) {
            due("none was made: back(" + k + ")", x.back(k), -1);
        }
        Due.due("nothing happens", State.of(x).equals(before), true);
        for (int k = 0; k < 4; k++) {
            due("image(" + k + ")", x.image(k), 1);
        }
    }

    private static void imageWhereNothingWasTold() {
        about("29: (it is made also where nothing was told yet)");
        GuardedStreets x = new GuardedStreets();
        due("image(0)", x.image(0), 0);
        x.clock(9);
        x.street(1, 1, true);
        x.start(4);
        x.book(0, 9, 0, 1);
        x.film(0, 9, 1);
        due("back(0)", x.back(0), 0);
        for (int what = 0; what < 5; what++) {
            due("count(" + what + ")", x.count(what), 0);
        }
        due("START", x.start(NONE), -1);
    }

    private static void imageMadeAnew() {
        about("29: An IMAGE is made: also where there was one");
        GuardedStreets x = new GuardedStreets();
        x.image(2);
        x.clock(5);
        x.street(1, 1, true);
        due("image(2) anew", x.image(2), 5);
        x.clock(7);
        due("back(2)", x.back(2), 5);
        due("STREETS", x.count(1), 1);
    }

    private static void imageOfAFullTown() {
        about("29: IMAGES of 24 STREETS");
        GuardedStreets x = Made.allStreets();
        x.clock(259);
        x.beside(0, 23, true);
        x.book(23, 259, 3, 99);
        x.film(23, 259, 999);
        for (int k = 0; k < 4; k++) {
            due("image(" + k + ")", x.image(k), 259);
        }
        x.book(23, 259, 3, 1);
        x.film(23, 259, 1);
        x.beside(0, 23, false);
        for (int k = 0; k < 4; k++) {
            due("back(" + k + ")", x.back(k), 259);
            due("BOOK", x.book(23, 259, 3, k), 99);
            due("FILM", x.film(23, 259, k), 999);
            due("pairs", x.count(2), 1);
        }
        due("a 25th STREET", x.street(1, 1, true), -1);
    }

    private static void backAsTheyWere() {
        about("30: All is as in an IMAGE: NOW, STREETS, BESIDE, START, BOOKS, FILMS");
        GuardedStreets x = Made.busy();
        String before = State.of(x);
        x.image(0);
        x.clock(9);
        x.street(1, 1, true);
        x.beside(0, 1, false);
        x.start(NONE);
        x.book(0, 0, 0, 1);
        x.book(0, 1, 3, NONE);
        x.book(0, 0, 1, 7);
        x.film(0, 1, 5);
        x.film(1, 0, NONE);
        due("NOW", x.back(0), 1);
        Due.due("as it was", State.of(x).equals(before), true);
        due("WEEK 2 is behind NOW again", x.book(0, 2, 0, 1), -2);
        due("clock(2)", x.clock(2) ? 1 : 0, 1);
    }

    private static void backToFewerStreets() {
        about("30: STREETS as they were: those told since are no more");
        GuardedStreets x = Made.oneStreet();
        x.image(1);
        x.street(5, 5, true);
        x.beside(0, 1, true);
        x.book(1, 0, 0, 9);
        x.film(1, 0, 9);
        x.back(1);
        due("ring(1)", x.ring(1), -1);
        due("ring(0)", x.ring(0), 3);
        due("the next number", x.street(6, 6, false), 1);
        due("its RING", x.ring(1), 3);
        due("no BOOK", x.book(1, 0, 0, NONE), -1);
        due("no FILM", x.film(1, 0, NONE), -1);
        due("no pairs", x.count(2), 0);
    }

    private static void backToStreetsWhoseNumbersOthersTook() {
        about("30: STREETS as they were: cars, wish, house");
        GuardedStreets x = withLaws(new GuardedStreets(), "steal cars", "steal wish", "steal house");
        x.image(0);
        x.street(11, 22, true);
        x.image(1);
        x.back(0);
        x.street(33, 44, false);
        x.image(2);
        for (int i = 0; i < 2; i++) {
            x.back(1);
            due("cars", x.by(0, 0, 0, 0), 11);
            due("wish", x.by(1, 0, 0, 0), 22);
            due("house", x.by(2, 0, 0, 0), 1);
            due("RING", x.ring(0), 0);
            x.back(2);
            due("cars", x.by(0, 0, 0, 0), 33);
            due("wish", x.by(1, 0, 0, 0), 44);
            due("house", x.by(2, 0, 0, 0), 0);
            due("RING", x.ring(0), 3);
        }
    }

    private static void aStreetWhoseNumberAnotherHad() {
        about("30: STREETS as they were: a new one has nothing of one that is no more");
        GuardedStreets x = new GuardedStreets();
        x.street(1, 1, true);
        x.image(0);
        x.street(2, 2, false);
        x.beside(0, 1, true);
        x.back(0);
        due("street", x.street(3, 3, false), 1);
        due("RING", x.ring(1), 3);
        due("pairs", x.count(2), 0);
        due("beside", x.beside(1, 0, true) ? 1 : 0, 1);
        due("RING", x.ring(1), 1);
        due("pairs", x.count(2), 1);
    }

    private static void backLeavesLawsAndTape() {
        about("30: (LAWS stay)");
        GuardedStreets x = Made.oneStreet();
        x.image(0);
        withLaws(x, "steal 17");
        Due.feed(x, "steal 1");
        x.back(0);
        due("LAWS", x.count(5), 1);
        due("STOLEN", x.by(0, 0, 0, 0), 17);
        due("bytes of the TAPE", x.count(6), 7);
        due("law", x.law(), 1);
    }

    private static void backToNeverMade() {
        about("30: NONE, and nothing happens, if it was never made");
        GuardedStreets x = Made.busy();
        x.image(1);
        x.clock(2);
        String before = State.of(x);
        due("back(0)", x.back(0), -1);
        due("back(2)", x.back(2), -1);
        due("back(3)", x.back(3), -1);
        Due.due("nothing happens", State.of(x).equals(before), true);
        due("back(1)", x.back(1), 1);
    }

    private static void backWithoutIt() {
        about("30: NONE, and nothing happens, or without it");
        GuardedStreets x = Made.busy();
        for (int k = 0; k < 4; k++) {
            x.image(k);
        }
        x.clock(2);
        String before = State.of(x);
        int[] none = {-1, 4, LEAST, MOST};
        for (int k : none) {
            due("back(" + k + ")", x.back(k), -1);
        }
        Due.due("nothing happens", State.of(x).equals(before), true);
    }

    private static void backAgainAndAgain() {
        about("30: gone back to, these are as they were: as often as one likes");
        GuardedStreets x = Made.oneStreet();
        x.book(0, 0, 0, 5);
        x.image(0);
        x.clock(3);
        x.street(1, 1, true);
        x.image(1);
        for (int i = 0; i < 3; i++) {
            due("back(0)", x.back(0), 0);
            due("STREETS", x.count(1), 1);
            due("BOOK", x.book(0, 0, 0, i), 5);
            due("back(1)", x.back(1), 3);
            due("STREETS", x.count(1), 2);
            due("BOOK", x.book(0, 0, 0, 10 + i), 5);
        }
    }

    private static void askingChangesNothing() {
        about("12 to 28: what is asked twice, with all else asked between, is answered alike, and nothing happens");
        GuardedStreets x = withLaws(atOne(5, 3), "steal 5000 - 2000 * guard; moves 900", "steal 700 * since; told 7");
        x.street(8, 8, false);
        x.beside(0, 2, true);
        Made.book(x, 2, 0, 0, 1, 2);
        x.film(0, 0, 30);
        String before = State.of(x);
        long[] first = asked(x);
        long[] second = asked(x);
        for (int i = 0; i < first.length; i++) {
            due("the answer " + i + " again", second[i], first[i]);
        }
        Due.due("nothing happens", State.of(x).equals(before), true);
    }

    private static long[] asked(GuardedStreets x) {
        return new long[] {x.by(0, 2, 1, 4), x.share(0, 0, 0, 1, 0), x.plan(1, 1, 0, 1), x.by(1, 0, 9, 0), x.best(0, 1, 50, 1),
            x.differ(0, 3, 0, 1, 1, 0), x.where(0, 0), x.differ(0, 1, 0, 1, 1, 2), x.towns(0, 7, 1, 20), x.miss(0, 0, 1),
            x.run(0, 7, 0, 40, 3), x.alike(0, 3, 0, 1, 0), x.off(1, 0), x.off(1, 1), x.thin(1, 2), x.cars(0, 0, 1), x.edge(1),
            x.plan(2, 0, 1, 0), x.cost(1, 40), x.like(0), x.deeds(1, 0), x.run(1, 7, 0, 9, 0), x.miss(1, 0, 259), x.where(1, 1),
            x.best(0, 259, 0, 0), x.by(0, 2, 0, 4), x.by(0, 0, 1, 1)};
    }
}
