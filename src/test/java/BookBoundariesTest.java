/** Parts III and IV, promises 13 to 23: of each sentence that names a boundary case a test of its own. */
public final class BookBoundariesTest {
    private static final int LEAST = Integer.MIN_VALUE;
    private static final int MOST = Integer.MAX_VALUE;
    private static final int NONE = GuardedStreets.NONE;
    private static final long NO_DIFFER = -1000000000;
    private static final long REFUSED = -2000000000;
    /** None of these is one of the WEEKS, RINGS, DEEDS or lengths that calls ask for. */
    private static final int[] NOWHERE = {-1, 260, LEAST, MOST};

    private BookBoundariesTest() {
    }

    public static void main(String[] args) {
        shareOfOneWeek();
        shareFromAndToCount();
        shareOfAllWeeks();
        shareOfNothing();
        shareNotCutDown();
        shareOfNoRing();
        shareOfNoDeed();
        shareOfNoWeek();
        shareFromAboveTo();
        shareOfNoPart();
        differOverOneWeek();
        differOverTwelveWeeks();
        differOverFewerOrMore();
        differOfLikeRings();
        differOfNoRing();
        differOfNoDeed();
        differOfNoWeek();
        differOfNoPart();
        differWithoutOneShare();
        differFromBelowZero();
        differToAbove259();
        differOfTheseWeeksAlone();
        differInLowestTerms();
        differBelowAboveZero();
        differOfZero();
        differThousandthsDownwards();
        differOfTheMost();
        alikeFromN();
        alikeToStartLessN();
        alikeWithADiffer();
        alikeNotAbove();
        alikeInThousandths();
        alikeOfNoWeeks();
        alikeWithoutStart();
        alikeWithoutADifferThere();
        alikeWithoutThese();
        offItsSignTurned();
        offDownwardsAheadOfTimes();
        offWithoutStart();
        offWithoutADiffer();
        offWithoutThese();
        doorItsSignNotTurned();
        doorWithoutADiffer();
        thinUpwards();
        thinIfOffIsBelowZero();
        thinIfOffIsZero();
        thinWithoutSuchStreets();
        thinWithoutOff();
        thinWithoutThese();
        carsDownwards();
        carsWithBoth();
        carsOfOtherDeeds();
        carsWithoutCars();
        carsOfTheMost();
        carsFromAboveTo();
        carsWithoutThese();
        Due.end();
    }

    private static void about(String sentence) {
        Due.about(sentence);
    }

    private static void due(String call, long got, long want) {
        Due.due(call, got, want);
    }

    private static void dueDiffer(GuardedStreets x, int week, int n, long above, long below, long thousandths) {
        due("differ(0, 3, 0, " + week + ", " + n + ", 0)", x.differ(0, 3, 0, week, n, 0), above);
        due("differ(0, 3, 0, " + week + ", " + n + ", 1)", x.differ(0, 3, 0, week, n, 1), below);
        due("differ(0, 3, 0, " + week + ", " + n + ", 2)", x.differ(0, 3, 0, week, n, 2), thousandths);
    }

    private static void dueNoDiffer(GuardedStreets x, int week, int n) {
        dueDiffer(x, week, n, 0, 0, NO_DIFFER);
    }

    /** STREET 0 with a house, STREET 1 of RING 3; NOW is the last WEEK. */
    private static GuardedStreets twoStreets() {
        GuardedStreets x = new GuardedStreets();
        x.clock(259);
        x.street(10, 10, true);
        x.street(20, 20, false);
        return x;
    }

    /** BOOKS of DEED 0 of two STREETS from a WEEK on; those of STREET 1 tell of no thefts. */
    private static GuardedStreets booked(int from, int... numbers) {
        GuardedStreets x = twoStreets();
        Made.book(x, 0, from, 0, numbers);
        Made.book(x, 1, from, 0, new int[numbers.length]);
        return x;
    }

    private static void shareOfOneWeek() {
        about("13: SHARE from a WEEK to another one: the same one");
        GuardedStreets x = booked(10, 5, 6, 7);
        due("together", x.share(0, 0, 11, 11, 0), 6);
        due("how many", x.share(0, 0, 11, 11, 1), 1);
    }

    private static void shareFromAndToCount() {
        about("13: SHARE from a WEEK to another one: both count");
        GuardedStreets x = booked(10, 5, 6, 7);
        due("10 to 12", x.share(0, 0, 10, 12, 0), 18);
        due("11 to 12", x.share(0, 0, 11, 12, 0), 13);
        due("10 to 11", x.share(0, 0, 10, 11, 0), 11);
        due("10 to 11, how many", x.share(0, 0, 10, 11, 1), 2);
    }

    private static void shareOfAllWeeks() {
        about("13: SHARE from WEEK 0 to 259");
        GuardedStreets x = booked(0, 5);
        x.book(0, 259, 0, 99);
        due("together", x.share(0, 0, 0, 259, 0), 104);
        due("how many", x.share(0, 0, 0, 259, 1), 2);
        due("but the first", x.share(0, 0, 1, 259, 0), 99);
        due("but the last", x.share(0, 0, 0, 258, 0), 5);
    }

    private static void shareOfNothing() {
        about("13: part 0: together, 1: how many: of BOOKS that tell nothing");
        GuardedStreets x = booked(10, 5);
        due("together", x.share(0, 0, 0, 9, 0), 0);
        due("how many", x.share(0, 0, 0, 9, 1), 0);
        due("a RING without STREETS, together", x.share(1, 0, 0, 259, 0), 0);
        due("a RING without STREETS, how many", x.share(1, 0, 0, 259, 1), 0);
        due("none stolen, together", x.share(3, 0, 10, 10, 0), 0);
        due("none stolen, how many", x.share(3, 0, 10, 10, 1), 1);
        due("no STREETS", new GuardedStreets().share(0, 0, 0, 0, 1), 0);
    }

    private static void shareNotCutDown() {
        about("13: (not cut down)");
        GuardedStreets x = booked(10, 4, 2);
        due("together", x.share(0, 0, 10, 11, 0), 6);
        due("how many", x.share(0, 0, 10, 11, 1), 2);
    }

    private static void shareOfNoRing() {
        about("13: NONE without these: the RING");
        GuardedStreets x = booked(0, 4);
        int[] none = {-1, 4, LEAST, MOST};
        for (int ring : none) {
            due("RING " + ring, x.share(ring, 0, 0, 1, 0), -1);
            due("RING " + ring + ", how many", x.share(ring, 0, 0, 1, 1), -1);
        }
        due("RING 0", x.share(0, 0, 0, 1, 1), 1);
        due("RING 3", x.share(3, 0, 0, 1, 1), 1);
    }

    private static void shareOfNoDeed() {
        about("13: NONE without these: the DEED");
        GuardedStreets x = booked(0, 4);
        x.book(0, 0, 3, 7);
        int[] none = {-1, 4, LEAST, MOST};
        for (int deed : none) {
            due("DEED " + deed, x.share(0, deed, 0, 1, 0), -1);
        }
        due("DEED 3", x.share(0, 3, 0, 1, 0), 7);
    }

    private static void shareOfNoWeek() {
        about("13: NONE without these: the WEEKS");
        GuardedStreets x = booked(0, 4);
        for (int week : NOWHERE) {
            due("from " + week, x.share(0, 0, week, 259, 0), -1);
            due("to " + week, x.share(0, 0, 0, week, 0), -1);
            due("from and to " + week, x.share(0, 0, week, week, 0), -1);
        }
    }

    private static void shareFromAboveTo() {
        about("13: NONE (from above to, too)");
        GuardedStreets x = booked(0, 4, 5, 6);
        due("from 1 to 0", x.share(0, 0, 1, 0, 0), -1);
        due("from 259 to 0", x.share(0, 0, 259, 0, 1), -1);
        due("from 1 to 1", x.share(0, 0, 1, 1, 0), 5);
    }

    private static void shareOfNoPart() {
        about("13: NONE without these: the part");
        GuardedStreets x = booked(0, 4);
        int[] none = {-1, 2, LEAST, MOST};
        for (int part : none) {
            due("part " + part, x.share(0, 0, 0, 0, part), -1);
        }
    }

    private static void differOverOneWeek() {
        about("14: over n WEEKS (1 to 12): 1");
        GuardedStreets x = booked(10, 5, 3, 9);
        dueDiffer(x, 11, 1, -2, 1, -2000);
        dueDiffer(x, 12, 1, 6, 1, 6000);
    }

    private static void differOverTwelveWeeks() {
        about("14: over n WEEKS (1 to 12): 12");
        GuardedStreets x = booked(0, 12, 0, 0, 0, 0, 0, 0, 0, 0, 0, 0, 12, 24, 0, 0, 0, 0, 0, 0, 0, 0, 0, 0, 12, 99);
        dueDiffer(x, 12, 12, 1, 1, 1000);
        due("n 11", x.differ(0, 3, 0, 12, 11, 0), 12);
        due("n 11, below", x.differ(0, 3, 0, 12, 11, 1), 11);
    }

    private static void differOverFewerOrMore() {
        about("14: -2000000000 without these: n (1 to 12)");
        GuardedStreets x = booked(0, new int[60]);
        int[] none = {0, 13, -1, -12, LEAST, MOST};
        for (int n : none) {
            for (int part = 0; part < 3; part++) {
                due("n " + n, x.differ(0, 3, 0, 30, n, part), REFUSED);
            }
        }
    }

    private static void differOfLikeRings() {
        about("14: DIFFER of a, b (unlike)");
        GuardedStreets x = booked(10, 5, 3);
        for (int ring = 0; ring < 4; ring++) {
            for (int part = 0; part < 3; part++) {
                due("of " + ring + " and itself", x.differ(ring, ring, 0, 11, 1, part), REFUSED);
            }
        }
        due("of 3 and 0", x.differ(3, 0, 0, 11, 1, 0), 2);
    }

    private static void differOfNoRing() {
        about("14: -2000000000 without these: the RINGS");
        GuardedStreets x = booked(10, 5, 3);
        int[] none = {-1, 4, LEAST, MOST};
        for (int ring : none) {
            due("of " + ring + " and 3", x.differ(ring, 3, 0, 11, 1, 2), REFUSED);
            due("of 0 and " + ring, x.differ(0, ring, 0, 11, 1, 2), REFUSED);
        }
    }

    private static void differOfNoDeed() {
        about("14: -2000000000 without these: the DEED");
        GuardedStreets x = booked(10, 5, 3);
        int[] none = {-1, 4, LEAST, MOST};
        for (int deed : none) {
            due("DEED " + deed, x.differ(0, 3, deed, 11, 1, 2), REFUSED);
        }
        due("DEED 3, of which nothing is told", x.differ(0, 3, 3, 11, 1, 2), NO_DIFFER);
    }

    private static void differOfNoWeek() {
        about("14: -2000000000 without these: the WEEK");
        GuardedStreets x = booked(10, 5, 3);
        for (int week : NOWHERE) {
            for (int part = 0; part < 3; part++) {
                due("WEEK " + week, x.differ(0, 3, 0, week, 1, part), REFUSED);
            }
        }
    }

    private static void differOfNoPart() {
        about("14: -2000000000 without these: the part");
        GuardedStreets x = booked(10, 5, 3);
        int[] none = {-1, 3, LEAST, MOST};
        for (int part : none) {
            due("part " + part, x.differ(0, 3, 0, 11, 1, part), REFUSED);
        }
    }

    private static void differWithoutOneShare() {
        about("14: none if some SHARE is none (0 by 0: none; -1000000000: none)");
        for (int street = 0; street < 2; street++) {
            for (int week = 10; week < 12; week++) {
                GuardedStreets x = booked(10, 5, 3);
                x.book(street, week, 0, NONE);
                dueNoDiffer(x, 11, 1);
            }
        }
        dueNoDiffer(twoStreets(), 11, 1);
        dueNoDiffer(new GuardedStreets(), 11, 1);
    }

    private static void differFromBelowZero() {
        about("14: none if w - n is below 0");
        GuardedStreets x = booked(0, 1, 3, 6, 10);
        dueDiffer(x, 1, 1, 2, 1, 2000);
        dueDiffer(x, 2, 2, 6, 1, 6000);
        dueNoDiffer(x, 0, 1);
        dueNoDiffer(x, 1, 2);
        dueNoDiffer(x, 2, 3);
        dueNoDiffer(x, 0, 12);
        dueNoDiffer(x, 11, 12);
    }

    private static void differToAbove259() {
        about("14: none if w + n - 1 is above 259");
        GuardedStreets x = booked(256, 1, 3, 6, 10);
        dueDiffer(x, 259, 1, 4, 1, 4000);
        dueDiffer(x, 258, 2, 6, 1, 6000);
        dueNoDiffer(x, 259, 2);
        dueNoDiffer(x, 258, 3);
        dueNoDiffer(x, 259, 12);
        dueNoDiffer(x, 249, 12);
        due("w + n - 1 at 259", x.differ(0, 3, 0, 248, 12, 2), NO_DIFFER);
        x.book(0, 247, 0, 0);
        x.book(1, 247, 0, 0);
        dueDiffer(x, 248, 12, 5, 1, 5000);
    }

    private static void differOfTheseWeeksAlone() {
        about("III: SHARE from w to w + n - 1, and from w - n to w - 1");
        for (int street = 0; street < 2; street++) {
            GuardedStreets x = booked(10, 0, 0, 0, 0, 0, 0);
            x.book(street, 10, 0, 50);
            x.book(street, 15, 0, 99);
            dueDiffer(x, 13, 2, 0, 1, 0);
            x.book(street, 11, 0, 2);
            x.book(street, 12, 0, 4);
            int sign = street == 0 ? 1 : -1;
            dueDiffer(x, 13, 2, -3 * sign, 1, -3000 * sign);
            x.book(street, 13, 0, 6);
            x.book(street, 14, 0, 8);
            dueDiffer(x, 13, 2, 4 * sign, 1, 4000 * sign);
        }
    }

    private static void differInLowestTerms() {
        about("14: part 0: above the line, 1: below it, in lowest terms");
        GuardedStreets x = booked(10, 2, 4, 5, 5);
        // 10/2 - 6/2
        dueDiffer(x, 12, 2, 2, 1, 2000);
        GuardedStreets y = booked(10, 0, 0, 0, 0, 1, 3, 2, 0);
        // 6/4 - 0
        dueDiffer(y, 14, 4, 3, 2, 1500);
        GuardedStreets z = booked(10, 0, 0, 0, 0, 0, 1, 1, 1);
        // 3/4 - 0
        dueDiffer(z, 14, 4, 3, 4, 750);
    }

    private static void differBelowAboveZero() {
        about("14: below above 0");
        GuardedStreets x = booked(10, 1, 0, 0, 0);
        dueDiffer(x, 12, 2, -1, 2, -500);
        due("of 3 and 0", x.differ(3, 0, 0, 12, 2, 0), 1);
        due("of 3 and 0, below", x.differ(3, 0, 0, 12, 2, 1), 2);
    }

    private static void differOfZero() {
        about("14: DIFFER of 0 is 0 by 1, not none");
        GuardedStreets x = booked(10, 5, 5, 5, 5);
        dueDiffer(x, 12, 2, 0, 1, 0);
    }

    private static void differThousandthsDownwards() {
        about("III: DIFFER in thousandths: downwards");
        GuardedStreets x = booked(10, 0, 0, 0, 1, 0, 0);
        dueDiffer(x, 13, 3, 1, 3, 333);
        GuardedStreets y = booked(10, 1, 0, 0, 0, 0, 0);
        dueDiffer(y, 13, 3, -1, 3, -334);
    }

    private static void differOfTheMost() {
        about("14: DIFFER of the most that BOOKS tell");
        GuardedStreets x = twoStreets();
        for (int week = 0; week < 12; week++) {
            Made.book(x, 0, week, 0, 0);
            Made.book(x, 0, 12 + week, 0, 99);
            Made.book(x, 1, week, 0, 99);
            Made.book(x, 1, 12 + week, 0, 0);
        }
        dueDiffer(x, 12, 12, 198, 1, 198000);
        due("of 3 and 0", x.differ(3, 0, 0, 12, 12, 2), -198000);
    }

    private static void alikeFromN() {
        about("15: of WEEKS w from n");
        // DIFFERS over 1 at 1, 2, 3 and 4, over 2 at 2, 3 and 4.
        GuardedStreets x = booked(0, 1, 2, 3, 4, 5, 6);
        x.start(5);
        due("over 1", x.alike(0, 3, 0, 1, 0), 4);
        x.start(4);
        due("over 2", x.alike(0, 3, 0, 2, 0), 1);
        GuardedStreets y = booked(0, 0, 1, 0, 2, 0, 0, 0, 0);
        y.start(6);
        due("over 2, from 2 to 4", y.alike(0, 3, 0, 2, 0), 3);
    }

    private static void alikeToStartLessN() {
        about("15: to START - n");
        // Over 1: 1, 0, 0, 0 at 1 to 4, 0 at START.
        GuardedStreets x = booked(0, 0, 1, 1, 1, 1, 1);
        x.start(2);
        due("START 2", x.alike(0, 3, 0, 1, 0), 1);
        due("START 2, not above", x.alike(0, 3, 0, 1, 1), 0);
        x.start(3);
        due("START 3", x.alike(0, 3, 0, 1, 0), 2);
        due("START 3, not above", x.alike(0, 3, 0, 1, 1), 1);
        x.start(4);
        due("over 2, START 4", x.alike(0, 3, 0, 2, 0), 1);
    }

    private static void alikeWithADiffer() {
        about("15: those that have a DIFFER");
        GuardedStreets x = booked(0, 1, 2, 3, 4, 5, 6, 7, 8);
        x.start(7);
        due("all", x.alike(0, 3, 0, 1, 0), 6);
        x.book(0, 3, 0, NONE);
        due("without WEEK 3", x.alike(0, 3, 0, 1, 0), 4);
        x.book(1, 0, 0, NONE);
        due("without WEEK 0 of the other", x.alike(0, 3, 0, 1, 0), 3);
    }

    private static void alikeNotAbove() {
        about("15: of these those in which it is not above that at START");
        // 1, -1, 0, 2, -2 at 1 to 5.
        GuardedStreets x = booked(0, 5, 6, 5, 5, 7, 5, 5);
        x.start(6);
        due("0 at START", x.alike(0, 3, 0, 1, 1), 3);
        x.book(0, 6, 0, 4);
        due("-1 at START", x.alike(0, 3, 0, 1, 1), 2);
        x.book(0, 6, 0, 2);
        due("-3 at START", x.alike(0, 3, 0, 1, 1), 0);
        x.book(0, 6, 0, 7);
        due("2 at START", x.alike(0, 3, 0, 1, 1), 5);
    }

    private static void alikeInThousandths() {
        about("15: not above that at START, in thousandths");
        GuardedStreets x = twoStreets();
        // STREET 1 tells of so few WEEKS that of those ahead of START 12 alone has a DIFFER.
        int[] told = {0, 12, 47, 48};
        for (int week : told) {
            x.book(1, week, 0, 0);
        }
        // At START 1/4 - 1/5, a twentieth; at 12 3/11 - 2/9, 5 by 99, which is a little more.
        Made.book(x, 0, 3, 0, 2, 0, 0, 0, 0, 0, 0, 0, 0);
        Made.book(x, 0, 12, 0, 3, 0, 0, 0, 0, 0, 0, 0, 0, 0, 0);
        Made.book(x, 0, 43, 0, 1, 0, 0, 0, 0);
        Made.book(x, 0, 48, 0, 1, 0, 0, 0);
        x.start(48);
        dueDiffer(x, 48, 12, 1, 20, 50);
        dueDiffer(x, 12, 12, 5, 99, 50);
        due("how many", x.alike(0, 3, 0, 12, 0), 1);
        due("not above", x.alike(0, 3, 0, 12, 1), 1);
    }

    private static void alikeOfNoWeeks() {
        about("15: of WEEKS from n to START - n: there are none");
        GuardedStreets x = booked(0, 1, 2, 3, 4);
        x.start(1);
        due("START 1", x.alike(0, 3, 0, 1, 0), 0);
        due("START 1, not above", x.alike(0, 3, 0, 1, 1), 0);
        x.start(2);
        due("over 2, START 2", x.alike(0, 3, 0, 2, 0), 0);
    }

    private static void alikeWithoutStart() {
        about("15: None without START: -2");
        GuardedStreets x = booked(0, 1, 2, 3, 4);
        due("what 0", x.alike(0, 3, 0, 1, 0), -2);
        due("what 1", x.alike(0, 3, 0, 1, 1), -2);
        x.start(3);
        x.start(NONE);
        due("no more", x.alike(0, 3, 0, 1, 0), -2);
    }

    private static void alikeWithoutADifferThere() {
        about("15: None without a DIFFER there: -2");
        GuardedStreets x = booked(0, 1, 2, 3, 4);
        x.start(0);
        due("START 0", x.alike(0, 3, 0, 1, 0), -2);
        x.start(4);
        due("nothing told at START", x.alike(0, 3, 0, 1, 0), -2);
        due("what 1", x.alike(0, 3, 0, 1, 1), -2);
        x.start(1);
        due("START - n below 0", x.alike(0, 3, 0, 2, 0), -2);
        x.start(259);
        due("START + n - 1 above 259", x.alike(0, 3, 0, 2, 0), -2);
        x.start(2);
        due("RING 1", x.alike(1, 3, 0, 1, 0), -2);
        due("DEED 1", x.alike(0, 3, 1, 1, 0), -2);
    }

    private static void alikeWithoutThese() {
        about("15: NONE without these");
        GuardedStreets x = booked(0, 1, 2, 3, 4);
        x.start(2);
        int[] none = {-1, 4, LEAST, MOST};
        for (int i : none) {
            due("of " + i + " and 3", x.alike(i, 3, 0, 1, 0), -1);
            due("of 0 and " + i, x.alike(0, i, 0, 1, 0), -1);
            due("DEED " + i, x.alike(0, 3, i, 1, 0), -1);
            due("what " + i, x.alike(0, 3, 0, 1, i), -1);
        }
        due("what 2", x.alike(0, 3, 0, 1, 2), -1);
        due("of 0 and itself", x.alike(0, 0, 0, 1, 0), -1);
        int[] noLength = {0, 13, -1, LEAST, MOST};
        for (int n : noLength) {
            due("n " + n, x.alike(0, 3, 0, n, 0), -1);
        }
        x.start(NONE);
        due("also without START", x.alike(0, 3, 0, 13, 0), -1);
    }

    private static void offItsSignTurned() {
        about("16: OFF: its sign turned");
        GuardedStreets x = booked(0, 5, 3);
        x.start(1);
        due("fewer", x.off(1, 0), 2000);
        x.book(0, 1, 0, 9);
        due("more", x.off(1, 0), -4000);
        x.book(0, 1, 0, 5);
        due("as many", x.off(1, 0), 0);
    }

    private static void offDownwardsAheadOfTimes() {
        about("16: STREETS of RING 0 times n times (DIFFER in thousandths, downwards)");
        GuardedStreets x = booked(0, 1, 0, 0, 0, 0, 0);
        x.start(3);
        // -1/3 is -334; three times one STREET.
        due("one STREET", x.off(3, 0), 3 * 334);
        x.street(1, 1, true);
        due("two STREETS", x.off(3, 0), 2 * 3 * 334);
        x.book(0, 0, 0, 0);
        x.book(0, 3, 0, 1);
        due("1/3 is 333", x.off(3, 0), -2 * 3 * 333);
    }

    private static void offWithoutStart() {
        about("16: -1000000000: no START");
        GuardedStreets x = booked(0, 5, 3);
        due("OFF", x.off(1, 0), NO_DIFFER);
        due("DOOR", x.off(1, 1), NO_DIFFER);
        due("of a new object", new GuardedStreets().off(1, 0), NO_DIFFER);
    }

    private static void offWithoutADiffer() {
        about("16: -1000000000: no DIFFER");
        GuardedStreets x = booked(0, 5, 3);
        x.start(1);
        due("START - n below 0", x.off(2, 0), NO_DIFFER);
        x.start(2);
        due("nothing told at START", x.off(1, 0), NO_DIFFER);
        x.start(0);
        due("START 0", x.off(1, 0), NO_DIFFER);
        x.start(259);
        due("START + n - 1 above 259", x.off(12, 0), NO_DIFFER);
        x.start(1);
        x.book(1, 1, 0, NONE);
        due("nothing told of the others", x.off(1, 0), NO_DIFFER);
    }

    private static void offWithoutThese() {
        about("16: -2000000000 without these");
        GuardedStreets x = booked(0, 5, 3);
        x.start(1);
        int[] noLength = {0, 13, -1, LEAST, MOST};
        for (int n : noLength) {
            due("n " + n, x.off(n, 0), REFUSED);
            due("n " + n + ", DOOR", x.off(n, 1), REFUSED);
        }
        int[] noWhat = {-1, 2, LEAST, MOST};
        for (int what : noWhat) {
            due("what " + what, x.off(1, what), REFUSED);
        }
        x.start(NONE);
        due("also without START", x.off(0, 0), REFUSED);
    }

    private static void doorItsSignNotTurned() {
        about("16: DOOR: STREETS of RING 1 times n times DIFFER of 1 and 3, likewise, its sign not turned");
        GuardedStreets x = Made.atThree();
        due("more", x.off(1, 1), 2 * 1666);
        x.book(1, 3, 0, 0);
        x.book(6, 3, 0, 0);
        // -1/2 - 1/3 is -834.
        due("fewer", x.off(1, 1), -2 * 834);
    }

    private static void doorWithoutADiffer() {
        about("16: DOOR: -1000000000: no DIFFER");
        GuardedStreets x = booked(0, 5, 3);
        x.start(1);
        due("no STREET of RING 1", x.off(1, 1), NO_DIFFER);
        due("but OFF", x.off(1, 0), 2000);
    }

    private static void thinUpwards() {
        about("17: THIN: in like parts (upwards)");
        GuardedStreets x = booked(0, 5, 3);
        x.start(1);
        due("to one", x.thin(1, 3), 2000);
        x.street(1, 1, false);
        due("to two", x.thin(1, 3), 1000);
        x.street(1, 1, false);
        due("to three", x.thin(1, 3), 667);
        GuardedStreets y = booked(0, 1, 0, 0, 0);
        y.start(2);
        // OFF is 2 * 500.
        due("a WEEK", y.thin(2, 3), 500);
        x.beside(0, 2, true);
        due("RING 1 alone", x.thin(1, 1), 2000);
        due("RINGS 1 to 2", x.thin(1, 2), 2000);
        x.beside(2, 3, true);
        due("RINGS 1 to 2, two of them", x.thin(1, 2), 1000);
        due("RINGS 1 to 3", x.thin(1, 3), 667);
    }

    private static void thinIfOffIsBelowZero() {
        about("17: THIN: 0 if OFF is below 0");
        GuardedStreets x = booked(0, 5, 6);
        x.start(1);
        due("OFF", x.off(1, 0), -1000);
        due("THIN", x.thin(1, 3), 0);
    }

    private static void thinIfOffIsZero() {
        about("17: THIN of OFF 0");
        GuardedStreets x = booked(0, 5, 5);
        x.start(1);
        due("OFF", x.off(1, 0), 0);
        due("THIN", x.thin(1, 3), 0);
    }

    private static void thinWithoutSuchStreets() {
        about("17: THIN: none without such STREETS: -2");
        GuardedStreets x = booked(0, 5, 3);
        x.start(1);
        due("RING 1", x.thin(1, 1), -2);
        due("RINGS 1 to 2", x.thin(1, 2), -2);
        due("RINGS 1 to 3", x.thin(1, 3), 2000);
        x.book(0, 1, 0, 9);
        due("RING 1, with OFF below 0", x.thin(1, 1), -2);
    }

    private static void thinWithoutOff() {
        about("17: -2: none (no OFF, too)");
        GuardedStreets x = booked(0, 5, 3);
        due("no START", x.thin(1, 3), -2);
        x.start(1);
        due("no DIFFER", x.thin(2, 3), -2);
    }

    private static void thinWithoutThese() {
        about("17: NONE without these (a RING r (1 to 3))");
        GuardedStreets x = booked(0, 5, 3);
        x.start(1);
        int[] noRing = {0, 4, -1, LEAST, MOST};
        for (int ring : noRing) {
            due("RING " + ring, x.thin(1, ring), -1);
        }
        int[] noLength = {0, 13, -1, LEAST, MOST};
        for (int n : noLength) {
            due("n " + n, x.thin(n, 3), -1);
        }
        x.start(NONE);
        due("also without START", x.thin(1, 0), -1);
    }

    private static void carsDownwards() {
        about("18: BY CARS: a million times, by cars together, downwards");
        GuardedStreets x = booked(0, 2, 1);
        x.film(0, 0, 3);
        x.film(0, 1, 4);
        due("2 by 3", x.cars(0, 0, 0), 666666);
        due("1 by 4", x.cars(0, 1, 1), 250000);
        due("3 by 7", x.cars(0, 0, 1), 428571);
    }

    private static void carsWithBoth() {
        about("18: of STREETS and WEEKS with a BOOK of DEED 0 and a FILM");
        GuardedStreets x = booked(0, 2, 9);
        x.film(0, 0, 4);
        x.film(0, 2, 999);
        due("the WEEK with both alone", x.cars(0, 0, 259), 500000);
        due("a BOOK alone", x.cars(0, 1, 1), -2);
        due("a FILM alone", x.cars(0, 2, 2), -2);
    }

    private static void carsOfOtherDeeds() {
        about("18: with a BOOK of DEED 0");
        GuardedStreets x = twoStreets();
        x.film(0, 0, 4);
        for (int deed = 1; deed < 4; deed++) {
            x.book(0, 0, deed, 9);
        }
        due("none of DEED 0", x.cars(0, 0, 0), -2);
        x.book(0, 0, 0, 0);
        due("of DEED 0 none were stolen", x.cars(0, 0, 0), 0);
    }

    private static void carsWithoutCars() {
        about("18: none without cars: -2");
        GuardedStreets x = booked(0, 2, 3);
        due("no FILMS", x.cars(0, 0, 1), -2);
        x.film(0, 0, 0);
        x.film(0, 1, 0);
        due("FILMS of no cars", x.cars(0, 0, 1), -2);
        x.film(0, 1, 1);
        due("of one", x.cars(0, 0, 1), 5000000);
        due("a RING without STREETS", x.cars(1, 0, 259), -2);
        due("of a new object", new GuardedStreets().cars(0, 0, 259), -2);
    }

    private static void carsOfTheMost() {
        about("18: BY CARS beyond 31 bits");
        GuardedStreets x = twoStreets();
        for (int week = 0; week < 120; week++) {
            x.book(0, week, 0, 99);
            x.film(0, week, week == 119 ? 1 : 0);
        }
        due("by one car", x.cars(0, 0, 259), 120L * 99 * 1000000);
    }

    private static void carsFromAboveTo() {
        about("18: NONE (from above to, too)");
        GuardedStreets x = booked(0, 2, 3);
        x.film(0, 0, 4);
        due("from 1 to 0", x.cars(0, 1, 0), -1);
        due("from 0 to 0", x.cars(0, 0, 0), 500000);
    }

    private static void carsWithoutThese() {
        about("18: NONE without these");
        GuardedStreets x = booked(0, 2, 3);
        x.film(0, 0, 4);
        int[] noRing = {-1, 4, LEAST, MOST};
        for (int ring : noRing) {
            due("RING " + ring, x.cars(ring, 0, 1), -1);
        }
        for (int week : NOWHERE) {
            due("from " + week, x.cars(0, week, 259), -1);
            due("to " + week, x.cars(0, 0, week), -1);
        }
    }
}
