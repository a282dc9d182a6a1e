/** Part IV, promises 19 to 23: of each sentence that names a boundary case a test of its own. */
public final class CostBoundariesTest {
    private static final int LEAST = Integer.MIN_VALUE;
    private static final int MOST = Integer.MAX_VALUE;
    private static final int NONE = GuardedStreets.NONE;
    private static final int NO_WHERE = -1000000000;
    private static final int[] NO_LENGTH = {0, 13, -1, -12, LEAST, MOST};

    private CostBoundariesTest() {
    }

    public static void main(String[] args) {
        edgeDownwards();
        edgeOfAllStreetsOfRingZero();
        edgeOverTwelve();
        edgeWithoutStart();
        edgeWithoutTheShareSince();
        edgeWithoutTheShareAhead();
        edgeIfTheLatterIsZero();
        edgeOfZeroSince();
        edgeFromBelowZero();
        edgeToAbove259();
        edgeOfTheMost();
        edgeWithoutThese();
        costUpwards();
        costTimesStreets();
        costOfTheLeastAndTheMostWage();
        costIfOffIsZero();
        costIfOffIsBelowZero();
        costWithoutOff();
        costOfNoWage();
        costOfNoLength();
        whereInLowestTerms();
        whereBelowAboveZero();
        whereOfZero();
        whereWithoutHouses();
        whereWithoutOthers();
        whereWithoutStreets();
        whereWithoutThese();
        likeBothDifferencesWithoutSign();
        likeOfSeveralTheLeast();
        likeOfRingThreeAlone();
        likeOfTheFirstAndTheLast();
        likeFarApart();
        likeWithoutRingThree();
        likeWithoutAHouse();
        likeWithoutIt();
        deedsNotAbove();
        deedsInThousandths();
        deedsZeroToThree();
        deedsWithoutADiffer();
        deedsOfTheMostThousandths();
        deedsOfTooManyThousandths();
        deedsWithoutStart();
        deedsOfNoLength();
        Due.end();
    }

    private static void about(String sentence) {
        Due.about(sentence);
    }

    private static void due(String call, long got, long want) {
        Due.due(call, got, want);
    }

    /** STREET 0 with a house, STREET 1 of RING 3; NOW is the last WEEK. */
    private static GuardedStreets twoStreets() {
        GuardedStreets x = new GuardedStreets();
        x.clock(259);
        x.street(10, 10, true);
        x.street(20, 20, false);
        return x;
    }

    /** BOOKS of DEED 0 of two STREETS from a WEEK on; those of STREET 1 tell of no thefts. */
    private static GuardedStreets booked(int start, int from, int... numbers) {
        GuardedStreets x = twoStreets();
        x.start(start);
        Made.book(x, 0, from, 0, numbers);
        Made.book(x, 1, from, 0, new int[numbers.length]);
        return x;
    }

    private static void edgeDownwards() {
        about("19: EDGE: a thousand times SHARE since, by that ahead, downwards");
        due("1 by 3", booked(1, 0, 3, 1).edge(1), 333);
        due("2 by 3", booked(1, 0, 3, 2).edge(1), 666);
        due("7 by 3", booked(1, 0, 3, 7).edge(1), 2333);
        due("over 2", booked(2, 0, 1, 3, 0, 9).edge(2), 2250);
    }

    private static void edgeOfAllStreetsOfRingZero() {
        about("19: SHARE of RING 0, DEED 0");
        GuardedStreets x = booked(1, 0, 3, 1);
        x.book(1, 0, 0, 99);
        x.book(0, 0, 1, 99);
        due("RING 3 and DEED 1 are left out", x.edge(1), 333);
        x.street(1, 1, true);
        x.book(2, 1, 0, 4);
        // 5/2 by 3.
        due("another house", x.edge(1), 833);
    }

    private static void edgeOverTwelve() {
        about("19: EDGE of n (1 to 12): 12");
        GuardedStreets x = booked(12, 0, 12, 0, 0, 0, 0, 0, 0, 0, 0, 0, 0, 12, 12, 0, 0, 0, 0, 0, 0, 0, 0, 0, 0, 6, 99);
        due("n 12", x.edge(12), 750);
        due("n 1", x.edge(1), 1000);
    }

    private static void edgeWithoutStart() {
        about("19: -2: none: no START");
        GuardedStreets x = booked(1, 0, 3, 1);
        x.start(NONE);
        due("edge", x.edge(1), -2);
        due("of a new object", new GuardedStreets().edge(1), -2);
    }

    private static void edgeWithoutTheShareSince() {
        about("19: none without both: none since");
        GuardedStreets x = booked(1, 0, 3);
        due("nothing told", x.edge(1), -2);
        x.book(0, 1, 1, 5);
        due("of another DEED", x.edge(1), -2);
    }

    private static void edgeWithoutTheShareAhead() {
        about("19: none without both: none ahead");
        GuardedStreets x = booked(1, 1, 3, 2);
        due("nothing told", x.edge(1), -2);
        due("no houses", new GuardedStreets().edge(1), -2);
    }

    private static void edgeIfTheLatterIsZero() {
        about("19: none if the latter is 0");
        due("0 ahead", booked(1, 0, 0, 5).edge(1), -2);
        due("0 ahead and since", booked(1, 0, 0, 0).edge(1), -2);
        due("0 and 1 ahead", booked(2, 0, 0, 1, 5, 5).edge(2), 10000);
    }

    private static void edgeOfZeroSince() {
        about("19: EDGE of 0 since");
        due("0 since", booked(1, 0, 5, 0).edge(1), 0);
    }

    private static void edgeFromBelowZero() {
        about("19: from START - n: a WEEK");
        due("START - n 0", booked(2, 0, 1, 1, 1, 1).edge(2), 1000);
        due("START - n below 0", booked(1, 0, 1, 1, 1, 1).edge(2), -2);
        due("START 0", booked(0, 0, 1, 1, 1, 1).edge(1), -2);
    }

    private static void edgeToAbove259() {
        about("19: to START + n - 1: a WEEK");
        due("START + n - 1 259", booked(258, 256, 1, 1, 1, 1).edge(2), 1000);
        due("START + n - 1 above 259", booked(259, 256, 1, 1, 1, 1).edge(2), -2);
        due("START 259", booked(259, 256, 1, 1, 1, 1).edge(1), 1000);
    }

    private static void edgeOfTheMost() {
        about("19: EDGE of the most that BOOKS tell");
        GuardedStreets x = new GuardedStreets();
        x.clock(259);
        for (int s = 0; s < 18; s++) {
            x.street(1, 1, true);
            Made.book(x, s, 0, 0, 0, 0, 0, 0, 0, 0, 0, 0, 0, 0, 0, s == 0 ? 1 : 0, 99, 99, 99, 99, 99, 99, 99, 99, 99, 99, 99, 99);
        }
        x.start(12);
        due("99 by 1/216", x.edge(12), 99 * 216 * 1000);
    }

    private static void edgeWithoutThese() {
        about("19: NONE without these: n (1 to 12)");
        GuardedStreets x = booked(12, 0, 3, 1);
        for (int n : NO_LENGTH) {
            due("n " + n, x.edge(n), -1);
        }
        x.start(NONE);
        due("also without START", x.edge(13), -1);
    }

    private static void costUpwards() {
        about("20: COST: by OFF, upwards");
        GuardedStreets x = booked(1, 0, 5, 2);
        due("OFF", x.off(1, 0), 3000);
        due("wage 1", x.cost(1, 1), 1);
        due("wage 2", x.cost(1, 2), 1);
        due("wage 3", x.cost(1, 3), 1);
        due("wage 4", x.cost(1, 4), 2);
        due("wage 6", x.cost(1, 6), 2);
        due("wage 7", x.cost(1, 7), 3);
    }

    private static void costTimesStreets() {
        about("20: a thousand times wage times STREETS of RING 0 times n, by OFF");
        GuardedStreets x = booked(1, 0, 5, 2);
        x.street(1, 1, true);
        due("OFF", x.off(1, 0), 6000);
        due("two STREETS of RING 0", x.cost(1, 300), 100);
        GuardedStreets y = booked(2, 0, 5, 5, 2, 2);
        due("over 2", y.cost(2, 300), 100);
    }

    private static void costOfTheLeastAndTheMostWage() {
        about("20: wage (1 to 9999 a MAN a WEEK)");
        GuardedStreets x = booked(1, 0, 1, 0);
        due("wage 1", x.cost(1, 1), 1);
        due("wage 9999", x.cost(1, 9999), 9999);
        // DIFFER is a twelfth less, which is -84 thousandths.
        GuardedStreets y = booked(12, 0, 1, 0, 0, 0, 0, 0, 0, 0, 0, 0, 0, 0, 0, 0, 0, 0, 0, 0, 0, 0, 0, 0, 0, 0);
        due("OFF", y.off(12, 0), 12 * 84);
        due("over 12, wage 9999", y.cost(12, 9999), 9999000 / 84 + 1);
    }

    private static void costIfOffIsZero() {
        about("20: none if OFF is not above 0: 0");
        GuardedStreets x = booked(1, 0, 5, 5);
        due("OFF", x.off(1, 0), 0);
        due("COST", x.cost(1, 1), -2);
    }

    private static void costIfOffIsBelowZero() {
        about("20: none if OFF is not above 0: below 0");
        GuardedStreets x = booked(1, 0, 5, 6);
        due("OFF", x.off(1, 0), -1000);
        due("COST", x.cost(1, 1), -2);
        due("with a great wage", x.cost(1, 9999), -2);
    }

    private static void costWithoutOff() {
        about("20: -2: none: no OFF");
        GuardedStreets x = booked(1, 0, 5, 2);
        due("no DIFFER", x.cost(2, 1), -2);
        x.start(NONE);
        due("no START", x.cost(1, 1), -2);
    }

    private static void costOfNoWage() {
        about("20: NONE without these: wage (1 to 9999)");
        GuardedStreets x = booked(1, 0, 5, 2);
        int[] none = {0, 10000, -1, LEAST, MOST};
        for (int wage : none) {
            due("wage " + wage, x.cost(1, wage), -1);
        }
        x.start(NONE);
        due("also without START", x.cost(1, 0), -1);
    }

    private static void costOfNoLength() {
        about("20: NONE without these: n (1 to 12)");
        GuardedStreets x = booked(1, 0, 5, 2);
        for (int n : NO_LENGTH) {
            due("n " + n, x.cost(n, 1), -1);
        }
    }

    private static void dueWhere(GuardedStreets x, int what, int above, int below) {
        due("where(" + what + ", 0)", x.where(what, 0), above);
        due("where(" + what + ", 1)", x.where(what, 1), below);
    }

    /** STREETS with so many cars and a wish of as many less one, the first of them with houses. */
    private static GuardedStreets withCars(int houses, int... cars) {
        GuardedStreets x = new GuardedStreets();
        for (int i = 0; i < cars.length; i++) {
            x.street(cars[i], Math.max(0, cars[i] - 1), i < houses);
        }
        return x;
    }

    private static void whereInLowestTerms() {
        about("21: WHERE: in lowest terms");
        dueWhere(withCars(1, 5, 2, 2), 0, 3, 1);
        dueWhere(withCars(1, 5, 2, 3), 0, 5, 2);
        dueWhere(withCars(2, 5, 4, 3, 3), 0, 3, 2);
        dueWhere(withCars(2, 5, 5, 2, 3, 4, 4), 0, 7, 4);
        dueWhere(withCars(2, 5, 5, 2, 3, 4, 4), 1, 7, 4);
    }

    private static void whereBelowAboveZero() {
        about("21: WHERE: below the line above 0");
        dueWhere(withCars(1, 2, 5, 6), 0, -7, 2);
        dueWhere(withCars(1, 0, 999), 0, -999, 1);
        dueWhere(withCars(1, 0, 999), 1, -998, 1);
        dueWhere(withCars(1, 999, 0), 0, 999, 1);
    }

    private static void whereOfZero() {
        about("21: WHERE of 0 is 0 by 1, not none");
        dueWhere(withCars(1, 5, 4, 6), 0, 0, 1);
    }

    private static void whereWithoutHouses() {
        about("21: none without both (0 by 0: none): no STREETS of RING 0");
        dueWhere(withCars(0, 5, 4, 6), 0, 0, 0);
        dueWhere(withCars(0, 5, 4, 6), 1, 0, 0);
    }

    private static void whereWithoutOthers() {
        about("21: none without both (0 by 0: none): no others");
        dueWhere(withCars(3, 5, 4, 6), 0, 0, 0);
        dueWhere(withCars(3, 5, 4, 6), 1, 0, 0);
    }

    private static void whereWithoutStreets() {
        about("21: none without both (0 by 0: none): no STREETS");
        dueWhere(new GuardedStreets(), 0, 0, 0);
        dueWhere(new GuardedStreets(), 1, 0, 0);
    }

    private static void whereWithoutThese() {
        about("21: -1000000000 without these");
        GuardedStreets x = withCars(1, 5, 2, 2);
        int[] none = {-1, 2, LEAST, MOST};
        for (int i : none) {
            due("what " + i, x.where(i, 0), NO_WHERE);
            due("part " + i, x.where(0, i), NO_WHERE);
        }
        due("of a new object", new GuardedStreets().where(2, 0), NO_WHERE);
    }

    private static void likeBothDifferencesWithoutSign() {
        about("22: LIKE: both differences without sign together");
        GuardedStreets x = new GuardedStreets();
        x.street(100, 100, true);
        x.street(103, 97, false);
        due("3 and 3", x.like(0), 1);
        x.street(105, 100, false);
        due("5 and 0", x.like(0), 2);
        x.street(98, 98, false);
        due("2 and 2", x.like(0), 3);
        x.street(100, 103, false);
        due("0 and 3", x.like(0), 4);
    }

    private static void likeOfSeveralTheLeast() {
        about("22: LIKE: of several the least");
        GuardedStreets x = new GuardedStreets();
        x.street(5, 5, true);
        x.street(9, 5, false);
        x.street(5, 9, false);
        x.street(1, 5, false);
        x.street(7, 3, false);
        due("of four", x.like(0), 1);
        x.street(6, 6, false);
        x.street(6, 4, false);
        due("of two", x.like(0), 5);
    }

    private static void likeOfRingThreeAlone() {
        about("22: LIKE: the STREET of RING 3");
        GuardedStreets x = Made.fiveStreets();
        due("RINGS 1 and 2 are less apart", x.like(0), 4);
        x.beside(2, 1, false);
        due("STREET 2 is of RING 3 now", x.like(0), 2);
        x.street(100, 10, true);
        due("not the other house", x.like(0), 2);
        due("nor of that", x.like(5), 2);
    }

    private static void likeOfTheFirstAndTheLast() {
        about("22: LIKE: the first and the last STREET");
        GuardedStreets x = new GuardedStreets();
        GuardedStreets y = new GuardedStreets();
        for (int s = 0; s < 24; s++) {
            x.street(s == 0 || s == 23 ? 5 : 900, 0, s == 23);
            y.street(s == 0 || s == 23 ? 5 : 900, 0, s == 0);
        }
        due("like(23)", x.like(23), 0);
        due("like(0)", y.like(0), 23);
    }

    private static void likeFarApart() {
        about("22: LIKE: cars and wish as far apart as may be");
        GuardedStreets x = new GuardedStreets();
        x.street(0, 999, true);
        x.street(999, 0, false);
        due("1998 apart", x.like(0), 1);
    }

    private static void likeWithoutRingThree() {
        about("22: -2: none of RING 3");
        GuardedStreets x = new GuardedStreets();
        x.street(1, 1, true);
        due("alone", x.like(0), -2);
        x.street(1, 1, false);
        x.beside(0, 1, true);
        due("with one of RING 1", x.like(0), -2);
        x.street(1, 1, false);
        x.beside(1, 2, true);
        due("with one of RING 2", x.like(0), -2);
    }

    private static void likeWithoutAHouse() {
        about("22: NONE (no house, too)");
        GuardedStreets x = Made.fiveStreets();
        for (int s = 1; s < 5; s++) {
            due("like(" + s + ")", x.like(s), -1);
        }
    }

    private static void likeWithoutIt() {
        about("22: NONE without it");
        GuardedStreets x = Made.fiveStreets();
        int[] none = {-1, 5, 23, 24, 32, LEAST, MOST};
        for (int s : none) {
            due("like(" + s + ")", x.like(s), -1);
        }
        due("of a new object", new GuardedStreets().like(0), -1);
    }

    /** At START 1 DIFFER of DEED 0 is -2, of 1 0, of 2 3, of 3 -1. */
    private static GuardedStreets fourDeeds() {
        GuardedStreets x = twoStreets();
        x.start(1);
        int[] since = {3, 5, 8, 4};
        for (int deed = 0; deed < 4; deed++) {
            Made.book(x, 0, 0, deed, 5, since[deed]);
            Made.book(x, 1, 0, deed, 1, 1);
        }
        return x;
    }

    private static void deedsNotAbove() {
        about("23: OTHER DEEDS: not above that");
        GuardedStreets x = fourDeeds();
        int[] thousandths = {-2001, -2000, -1999, -1001, -1000, -1, 0, 2999, 3000, 3001};
        int[] want = {0, 1, 1, 1, 2, 2, 3, 3, 4, 4};
        for (int i = 0; i < want.length; i++) {
            due("deeds(1, " + thousandths[i] + ")", x.deeds(1, thousandths[i]), want[i]);
        }
    }

    private static void deedsInThousandths() {
        about("23: OTHER DEEDS: DIFFER in thousandths, downwards");
        GuardedStreets x = booked(3, 0, 1, 0, 0, 0, 0, 0);
        due("-1/3 is -334", x.deeds(3, -335), 0);
        due("-1/3 is -334", x.deeds(3, -334), 1);
        GuardedStreets y = booked(3, 0, 0, 0, 0, 0, 0, 1);
        due("1/3 is 333", y.deeds(3, 332), 0);
        due("1/3 is 333", y.deeds(3, 333), 1);
    }

    private static void deedsZeroToThree() {
        about("23: of the DEEDS 0 to 3");
        for (int deed = 0; deed < 4; deed++) {
            GuardedStreets x = twoStreets();
            x.start(1);
            Made.book(x, 0, 0, deed, 5, 3);
            Made.book(x, 1, 0, deed, 5, 5);
            due("DEED " + deed + " alone", x.deeds(1, 0), 1);
        }
    }

    private static void deedsWithoutADiffer() {
        about("23: OTHER DEEDS: those that have a DIFFER");
        GuardedStreets x = fourDeeds();
        x.book(0, 0, 0, NONE);
        due("without DEED 0", x.deeds(1, 1000000), 3);
        due("none over 2", x.deeds(2, 1000000), 0);
        due("none over 2, the least", x.deeds(2, -1000000), 0);
        x.start(0);
        due("START 0", x.deeds(1, 1000000), 0);
    }

    private static void deedsOfTheMostThousandths() {
        about("23: thousandths -1000000 to 1000000");
        GuardedStreets x = fourDeeds();
        due("1000000", x.deeds(1, 1000000), 4);
        due("-1000000", x.deeds(1, -1000000), 0);
    }

    private static void deedsOfTooManyThousandths() {
        about("23: NONE without these: thousandths");
        GuardedStreets x = fourDeeds();
        int[] none = {1000001, -1000001, LEAST, MOST};
        for (int thousandths : none) {
            due("thousandths " + thousandths, x.deeds(1, thousandths), -1);
        }
    }

    private static void deedsWithoutStart() {
        about("23: NONE without START");
        GuardedStreets x = fourDeeds();
        x.start(NONE);
        due("deeds", x.deeds(1, 0), -1);
        due("of a new object", new GuardedStreets().deeds(1, 0), -1);
    }

    private static void deedsOfNoLength() {
        about("23: NONE without these: n (1 to 12)");
        GuardedStreets x = fourDeeds();
        for (int n : NO_LENGTH) {
            due("n " + n, x.deeds(n, 0), -1);
        }
        due("n 12", x.deeds(12, 0), 0);
    }
}
