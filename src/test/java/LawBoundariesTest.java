/** What LAWS say (part II, promise 12): of each sentence that names a boundary case a test of its own. */
public final class LawBoundariesTest {
    private static final int LEAST = Integer.MIN_VALUE;
    private static final int MOST = Integer.MAX_VALUE;
    /** 2 to the 60th. */
    private static final String GREAT = "32768*32768*32768*32768";

    private LawBoundariesTest() {
    }

    public static void main(String[] args) {
        byWithoutALaw();
        byWithoutAStreet();
        byWithoutAWeek();
        byWithoutAWhat();
        byWhateverIsNow();
        wordsAtTheirEnds();
        ringAtItsEnds();
        sinceAheadOfStart();
        sinceWithoutStart();
        divisionTowardsZero();
        divisionByZero();
        timesGoesRound();
        plusGoesRound();
        minusGoesRound();
        termsAheadOfSums();
        signsOfTests();
        signsWithinNotAndAnd();
        andAheadOfOr();
        notOfTheNextFactAlone();
        firstClauseOfItsSort();
        clauseWithoutATest();
        stolenHeldToTheMost();
        stolenHeldToZero();
        stolenWithoutAClause();
        stolenWhenNoTestHolds();
        keptOffWithGuardZero();
        keptOffWithRingThree();
        keptOffIsZeroAtLeast();
        keptOffOfWhatIsHeld();
        movesHeld();
        movesWithout();
        movesByTheRingAsItIs();
        movedDownwards();
        movedInLikePartsDownwards();
        movedToNone();
        movedWhereNoManStands();
        movedAheadOfStart();
        toldHeld();
        toldWithout();
        expectedDownwards();
        expectedOfNoneTold();
        expectedOfAllThatComes();
        expectedOfTheMost();
        Due.end();
    }

    private static void about(String sentence) {
        Due.about(sentence);
    }

    private static void due(String call, long got, long want) {
        Due.due(call, got, want);
    }

    private static GuardedStreets withLaw(GuardedStreets x, String text) {
        due("law of '" + text + "'", Due.law(x, text), x.count(5) - 1);
        return x;
    }

    private static void dueSum(String sum, int want) {
        due(sum, withLaw(Made.oneStreet(), "steal " + sum).by(0, 0, 0, 0), want);
    }

    private static void dueTest(String test, boolean want) {
        due(test, withLaw(Made.oneStreet(), "steal 1 if " + test).by(0, 0, 0, 0), want ? 1 : 0);
    }

    private static void dueAll(GuardedStreets x, int law, int street, int week, int... want) {
        for (int what = 0; what < 5; what++) {
            due("by(" + law + ", " + street + ", " + week + ", " + what + ")", x.by(law, street, week, what), want[what]);
        }
    }

    private static void byWithoutALaw() {
        about("12: NONE without these: the LAW");
        GuardedStreets x = withLaw(Made.oneStreet(), "steal 1");
        due("LAW 0", x.by(0, 0, 0, 0), 1);
        int[] none = {-1, 1, 7, 8, LEAST, MOST};
        for (int law : none) {
            due("LAW " + law, x.by(law, 0, 0, 0), -1);
        }
        due("no LAWS", Made.oneStreet().by(0, 0, 0, 0), -1);
    }

    private static void byWithoutAStreet() {
        about("12: NONE without these: the STREET");
        GuardedStreets x = withLaw(Made.oneStreet(), "steal 1");
        int[] none = {-1, 1, 23, 24, 32, LEAST, MOST};
        for (int street : none) {
            for (int what = 0; what < 5; what++) {
                due("STREET " + street, x.by(0, street, 0, what), -1);
            }
        }
        GuardedStreets y = withLaw(Made.allStreets(), "steal street + 1");
        due("STREET 23", y.by(0, 23, 0, 0), 24);
        due("STREET 24", y.by(0, 24, 0, 0), -1);
        due("no STREETS", withLaw(new GuardedStreets(), "steal 1").by(0, 0, 0, 0), -1);
    }

    private static void byWithoutAWeek() {
        about("12: NONE without these: the WEEK");
        GuardedStreets x = withLaw(Made.oneStreet(), "steal 1");
        int[] none = {-1, 260, LEAST, MOST};
        for (int week : none) {
            for (int what = 0; what < 5; what++) {
                due("WEEK " + week, x.by(0, 0, week, what), -1);
            }
        }
        due("WEEK 0", x.by(0, 0, 0, 0), 1);
        due("WEEK 259", x.by(0, 0, 259, 0), 1);
    }

    private static void byWithoutAWhat() {
        about("12: NONE without these: what");
        GuardedStreets x = withLaw(Made.oneStreet(), "steal 1");
        int[] none = {-1, 5, LEAST, MOST};
        for (int what : none) {
            due("what " + what, x.by(0, 0, 0, what), -1);
        }
        due("what 0", x.by(0, 0, 0, 0), 1);
        due("what 4", x.by(0, 0, 0, 4), 1);
    }

    private static void byWhateverIsNow() {
        about("12: of a STREET in a WEEK (whatever is NOW)");
        GuardedStreets x = withLaw(Made.oneStreet(), "steal week + 1");
        due("behind NOW", x.by(0, 0, 1, 0), 2);
        due("the last WEEK", x.by(0, 0, 259, 0), 260);
        x.clock(259);
        due("ahead of NOW", x.by(0, 0, 0, 0), 1);
    }

    private static void wordsAtTheirEnds() {
        about("II: WORDS at their ends");
        String[] words = {"cars", "wish", "week", "house", "street"};
        GuardedStreets x = new GuardedStreets();
        x.street(0, 999, false);
        for (int s = 1; s < 23; s++) {
            x.street(1, 1, false);
        }
        x.street(999, 0, true);
        int[] first = {0, 999, 0, 0, 0};
        int[] last = {999, 0, 259, 1, 23};
        for (int i = 0; i < words.length; i++) {
            withLaw(x, "steal " + words[i]);
            due(words[i] + " of STREET 0", x.by(i, 0, 0, 0), first[i]);
            due(words[i] + " of STREET 23", x.by(i, 23, 259, 0), last[i]);
        }
    }

    private static void ringAtItsEnds() {
        about("II: WORDS: ring, 0 to 3");
        GuardedStreets x = withLaw(Made.fiveStreets(), "steal ring");
        for (int s = 0; s < 5; s++) {
            due("ring of " + s, x.by(0, s, 0, 0), Math.min(3, s));
        }
    }

    private static void sinceAheadOfStart() {
        about("II: since (WEEKS since START, 0 ahead of it)");
        GuardedStreets x = withLaw(Made.oneStreet(), "steal since + 10");
        x.start(100);
        due("at 0", x.by(0, 0, 0, 0), 10);
        due("at 99", x.by(0, 0, 99, 0), 10);
        due("at START", x.by(0, 0, 100, 0), 10);
        due("at 101", x.by(0, 0, 101, 0), 11);
        due("at 259", x.by(0, 0, 259, 0), 169);
        x.start(0);
        due("at 259 from 0 on", x.by(0, 0, 259, 0), 269);
    }

    private static void sinceWithoutStart() {
        about("II: since (0 without START)");
        GuardedStreets x = withLaw(Made.oneStreet(), "steal since + 10");
        due("at 0", x.by(0, 0, 0, 0), 10);
        due("at 259", x.by(0, 0, 259, 0), 10);
    }

    private static void divisionTowardsZero() {
        about("II: / is towards 0");
        dueSum("7/2", 3);
        dueSum("99999/50000*10+1/2", 10);
        dueSum("5-cars/2", 2);
        // 2 to the 63rd is below 0: a tenth of it, ten times, is 8 above it.
        dueSum(GREAT + "*8/10*10-" + GREAT + "*8", 8);
    }

    private static void divisionByZero() {
        about("II: / 0 by 0");
        dueSum("5/0", 0);
        dueSum("0/0", 0);
        dueSum("9+cars/0", 9);
        dueSum("cars/0*5+1", 1);
        dueSum("cars/house+2", 2);
        dueSum(GREAT + "*8/0+3", 3);
        dueTest("1/0=0", true);
    }

    private static void timesGoesRound() {
        about("II: all goes round in 64 bits: times");
        dueTest(GREAT + "*4>0", true);
        dueTest(GREAT + "*8<0", true);
        dueSum(GREAT + "*16+5", 5);
        dueSum(GREAT + "*8*3-" + GREAT + "*8+4", 4);
    }

    private static void plusGoesRound() {
        about("II: all goes round in 64 bits: plus");
        dueTest(GREAT + "*4+" + GREAT + "*4<0", true);
        dueTest(GREAT + "*7+" + GREAT + ">0", false);
        dueSum(GREAT + "*8+" + GREAT + "*8+6", 6);
    }

    private static void minusGoesRound() {
        about("II: all goes round in 64 bits: minus");
        dueTest(GREAT + "*8-1>0", true);
        dueSum(GREAT + "*8-1", 99999);
        dueSum("0-" + GREAT + "*8", 0);
        dueTest("0-" + GREAT + "*8=" + GREAT + "*8", true);
    }

    private static void termsAheadOfSums() {
        about("II: SUM: TERM { (+ or -) TERM }, TERM: VALUE { (* or /) VALUE }");
        dueSum("2+3*4", 14);
        dueSum("2*3+4", 10);
        dueSum("20-3-4", 13);
        dueSum("100/7/2", 7);
        dueSum("7/2*2", 6);
        dueSum("9-8/2+1", 6);
    }

    private static void signsOfTests() {
        about("II: SUM SIGN SUM, SIGN one of < <= = >= >");
        String[] signs = {"<", "<=", "=", ">=", ">"};
        boolean[] below = {true, true, false, false, false};
        boolean[] equal = {false, true, true, true, false};
        boolean[] above = {false, false, false, true, true};
        for (int i = 0; i < signs.length; i++) {
            dueTest("6" + signs[i] + "cars", below[i]);
            dueTest("7" + signs[i] + "cars", equal[i]);
            dueTest("8" + signs[i] + "cars", above[i]);
            dueTest("0-1" + signs[i] + "0", below[i]);
        }
    }

    private static void signsWithinNotAndAnd() {
        about("II: FACT: not FACT | [ TEST ] | SUM SIGN SUM");
        String[] holding = {"6<cars", "7<=cars", "7=cars", "7>=cars", "8>cars", "[7=cars]", "not 6=cars"};
        String[] failing = {"7<cars", "8<=cars", "8=cars", "6>=cars", "7>cars", "[8=cars]", "not 7=cars"};
        for (int i = 0; i < holding.length; i++) {
            dueTest("not " + holding[i], false);
            dueTest("not " + failing[i], true);
            dueTest("not not " + holding[i], true);
            for (int k = 0; k < holding.length; k++) {
                dueTest(holding[i] + " and " + holding[k], true);
                dueTest(holding[i] + " and " + failing[k], false);
                dueTest(failing[i] + " or " + holding[k], true);
                dueTest(failing[i] + " or " + failing[k], false);
            }
        }
    }

    private static void andAheadOfOr() {
        about("II: TEST: PART { or PART }, PART: FACT { and FACT }");
        dueTest("1=1 or 1=2 and 1=2", true);
        dueTest("1=2 and 1=2 or 1=1", true);
        dueTest("[1=1 or 1=2] and 1=2", false);
        dueTest("1=2 or 1=2 or 1=1", true);
        dueTest("1=1 and 1=1 and 1=2", false);
        dueTest("1=2 or 1=2", false);
    }

    private static void notOfTheNextFactAlone() {
        about("II: not FACT");
        dueTest("not 1=1", false);
        dueTest("not 1=2", true);
        dueTest("not not 1=1", true);
        dueTest("not 1=2 and 1=2", false);
        dueTest("not 1=1 or 1=1", true);
        dueTest("not [1=1 and 1=2]", true);
    }

    private static void firstClauseOfItsSort() {
        about("II: Each SUM is that of the first CLAUSE of its sort whose TEST holds");
        GuardedStreets x = Made.fiveStreets();
        withLaw(x, "moves 9; steal 1 if street = 0; told 8; steal 2 if street < 2; steal 3 if street < 3; moves 7; told 6");
        dueAll(x, 0, 0, 0, 1, 0, 9, 8, 0);
        due("STREET 1", x.by(0, 1, 0, 0), 2);
        due("STREET 2", x.by(0, 2, 0, 0), 3);
        due("STREET 3", x.by(0, 3, 0, 0), 0);
    }

    private static void clauseWithoutATest() {
        about("II: the first CLAUSE of its sort without a TEST");
        GuardedStreets x = withLaw(Made.oneStreet(), "steal 4; steal 1 if 1 = 1");
        due("the first", x.by(0, 0, 0, 0), 4);
        withLaw(x, "steal 1 if 1 = 2; steal 5; steal 6");
        due("behind one with a TEST", x.by(1, 0, 0, 0), 5);
    }

    private static void stolenHeldToTheMost() {
        about("II: STOLEN: held to 0 to 99999");
        dueSum("99998", 99998);
        dueSum("99999", 99999);
        dueSum("99999+1", 99999);
        dueSum("99999*99999", 99999);
        dueSum(GREAT + "*7", 99999);
    }

    private static void stolenHeldToZero() {
        about("II: STOLEN: held to 0");
        dueSum("1-1", 0);
        dueSum("1-2", 0);
        dueSum("0-99999", 0);
        dueSum(GREAT + "*8", 0);
    }

    private static void stolenWithoutAClause() {
        about("II: STOLEN (0 without)");
        GuardedStreets x = withLaw(Made.oneStreet(), "told 7; moves 8");
        dueAll(x, 0, 0, 0, 0, 0, 8, 7, 0);
    }

    private static void stolenWhenNoTestHolds() {
        about("II: STOLEN (0 without): no TEST holds");
        GuardedStreets x = withLaw(Made.oneStreet(), "steal 5 if 1=2; steal 6 if cars=8");
        dueAll(x, 0, 0, 0, 0, 0, 0, 1000, 0);
    }

    private static void keptOffWithGuardZero() {
        about("II: KEPT OFF: STOLEN as it would be with guard 0, less STOLEN");
        GuardedStreets x = withLaw(Made.fiveStreets(), "steal 900 - 250 * guard");
        x.start(5);
        dueAll(x, 0, 0, 5, 650, 250, 0, 1000, 650);
        dueAll(x, 0, 0, 4, 900, 0, 0, 1000, 900);
        dueAll(x, 0, 1, 5, 900, 0, 0, 1000, 900);
    }

    private static void keptOffWithRingThree() {
        about("II: KEPT OFF: STOLEN as it would be with ring 3 there, less STOLEN");
        GuardedStreets x = withLaw(Made.fiveStreets(), "steal 100 * ring + house");
        int[] kept = {300, 200, 100, 0, 0};
        for (int s = 0; s < 5; s++) {
            due("KEPT OFF of " + s, x.by(0, s, 0, 1), kept[s]);
        }
    }

    private static void keptOffIsZeroAtLeast() {
        about("II: KEPT OFF: 0 at least");
        GuardedStreets x = withLaw(Made.fiveStreets(), "steal 500 + guard; moves 1000");
        withLaw(x, "steal 500 - ring");
        withLaw(x, "steal 500");
        x.start(0);
        due("more with a MAN", x.by(0, 0, 0, 1), 0);
        due("more in a lesser RING", x.by(1, 0, 0, 1), 0);
        due("as many", x.by(2, 0, 0, 1), 0);
        due("nothing less next door", x.by(0, 1, 0, 4), 500);
    }

    private static void keptOffOfWhatIsHeld() {
        about("II: KEPT OFF: both STOLEN are held to 0 to 99999");
        GuardedStreets x = withLaw(Made.fiveStreets(), "steal 99999 + 50000 - 60000 * guard");
        withLaw(x, "steal 100 - 300 * guard");
        withLaw(x, "steal 99999 + 9 if guard = 0");
        x.start(0);
        due("held to 99999", x.by(0, 0, 0, 1), 10000);
        due("held to 0", x.by(1, 0, 0, 1), 100);
        due("the most", x.by(2, 0, 0, 1), 99999);
    }

    private static void movesHeld() {
        about("II: MOVES: held to 0 to 1000");
        int[] sums = {0, 1, 999, 1000, 1001, 99999};
        for (int sum : sums) {
            due("moves " + sum, withLaw(Made.oneStreet(), "moves " + sum).by(0, 0, 0, 2), Math.min(1000, sum));
        }
        due("moves 0-1", withLaw(Made.oneStreet(), "moves 0-1").by(0, 0, 0, 2), 0);
    }

    private static void movesWithout() {
        about("II: MOVES (0 without)");
        GuardedStreets x = withLaw(Made.fiveStreets(), "steal 1000 if guard = 0");
        withLaw(x, "steal 1000 if guard = 0; moves 1000 if guard = 0");
        x.start(0);
        for (int law = 0; law < 2; law++) {
            due("MOVES", x.by(law, 0, 0, 2), 0);
            due("nothing comes", x.by(law, 1, 0, 4), 1000);
        }
    }

    private static void movesByTheRingAsItIs() {
        about("II: MOVES and TOLD by guard and ring as they are");
        GuardedStreets x = withLaw(Made.fiveStreets(), "moves 5 if guard = 1 and ring = 0; told 6 if guard = 1 and ring = 0");
        x.start(0);
        dueAll(x, 0, 0, 0, 0, 0, 5, 6, 0);
        dueAll(x, 0, 3, 0, 0, 0, 0, 1000, 0);
    }

    /** STREET 0 with a MAN, STREETS 1 to n BESIDE it. */
    private static GuardedStreets star(int n) {
        GuardedStreets x = new GuardedStreets();
        x.street(1, 1, true);
        for (int s = 1; s <= n; s++) {
            x.street(1, 1, false);
            x.beside(0, s, true);
        }
        x.start(0);
        return x;
    }

    private static void movedDownwards() {
        about("II: of KEPT OFF so many thousandths, downwards");
        int[] moves = {0, 1, 499, 500, 999, 1000};
        int[] comes = {0, 0, 0, 1, 1, 2};
        for (int i = 0; i < moves.length; i++) {
            GuardedStreets x = withLaw(star(1), "steal 2 if guard = 0 and ring = 3; moves " + moves[i]);
            due("of 2 by " + moves[i], x.by(0, 1, 0, 4), comes[i]);
        }
        GuardedStreets y = withLaw(star(2), "steal 1003 if guard = 0 and ring = 3 and house = 1; moves 999");
        // 1001.997 is 1001, of which a half is 500.
        due("downwards twice", y.by(0, 2, 0, 4), 500);
    }

    private static void movedInLikePartsDownwards() {
        about("II: go in like parts, downwards, to STREETS BESIDE it");
        for (int n = 1; n < 24; n++) {
            GuardedStreets x = withLaw(star(n), "steal 100 if guard = 0 and house = 1; moves 1000");
            due("the first of " + n, x.by(0, 1, 0, 4), 100 / n);
            due("the last of " + n, x.by(0, n, 0, 4), 100 / n);
        }
    }

    private static void movedToNone() {
        about("II: (nothing goes without these)");
        GuardedStreets x = withLaw(star(0), "steal 100 if guard = 0; moves 1000");
        dueAll(x, 0, 0, 0, 0, 100, 1000, 1000, 0);
        x.street(1, 1, true);
        x.beside(0, 1, true);
        x.street(1, 1, false);
        dueAll(x, 0, 0, 0, 0, 100, 1000, 1000, 0);
        dueAll(x, 0, 1, 0, 0, 100, 1000, 1000, 0);
        due("not BESIDE it", x.by(0, 2, 0, 4), 100);
    }

    private static void movedWhereNoManStands() {
        about("II: to STREETS BESIDE it in which no MAN stands then");
        GuardedStreets x = withLaw(star(2), "steal 100 if guard = 0 and street = 0; moves 1000");
        x.street(1, 1, true);
        x.beside(0, 3, true);
        due("in halves", x.by(0, 1, 0, 4), 50);
        due("in halves", x.by(0, 2, 0, 4), 50);
        due("not to the other MAN", x.by(0, 3, 0, 4), 0);
    }

    private static void movedAheadOfStart() {
        about("II: in which no MAN stands then: ahead of START to all");
        GuardedStreets x = withLaw(star(2), "steal 100 if ring = 3 and street = 0; moves 1000");
        x.street(1, 1, true);
        x.beside(0, 3, true);
        x.start(5);
        due("in thirds", x.by(0, 3, 4, 4), 33);
        due("at START", x.by(0, 3, 5, 4), 0);
        due("in halves", x.by(0, 2, 5, 4), 50);
    }

    private static void toldHeld() {
        about("II: TOLD: held to 0 to 1000");
        int[] sums = {0, 1, 999, 1000, 1001, 99999};
        for (int sum : sums) {
            due("told " + sum, withLaw(Made.oneStreet(), "told " + sum).by(0, 0, 0, 3), Math.min(1000, sum));
        }
        due("told 0-1", withLaw(Made.oneStreet(), "told 0-1").by(0, 0, 0, 3), 0);
    }

    private static void toldWithout() {
        about("II: TOLD (1000 without)");
        GuardedStreets x = withLaw(Made.oneStreet(), "steal 7");
        dueAll(x, 0, 0, 0, 7, 0, 0, 1000, 7);
        withLaw(x, "steal 7; told 5 if 1=2");
        dueAll(x, 1, 0, 0, 7, 0, 0, 1000, 7);
    }

    private static void expectedDownwards() {
        about("II: EXPECTED: times TOLD by 1000, downwards");
        int[] told = {999, 500, 499, 334, 333, 1, 0, 1000};
        int[] expected = {2, 1, 1, 1, 0, 0, 0, 3};
        for (int i = 0; i < told.length; i++) {
            due("3 told " + told[i], withLaw(Made.oneStreet(), "steal 3;told " + told[i]).by(0, 0, 0, 4), expected[i]);
        }
        // 1 and 1 together are told of, not each by itself.
        GuardedStreets x = withLaw(star(1), "steal 1 if guard = 0; moves 1000; told 500");
        due("together", x.by(0, 1, 0, 4), 1);
    }

    private static void expectedOfNoneTold() {
        about("II: EXPECTED with TOLD 0");
        GuardedStreets x = withLaw(Made.oneStreet(), "steal 99999; told 0");
        dueAll(x, 0, 0, 0, 99999, 0, 0, 0, 0);
    }

    private static void expectedOfAllThatComes() {
        about("II: EXPECTED: STOLEN and all that comes from STREETS BESIDE it");
        GuardedStreets x = new GuardedStreets();
        for (int s = 0; s < 24; s++) {
            x.street(1, 1, s > 0);
            x.beside(0, s, true);
        }
        x.start(0);
        withLaw(x, "steal 100 + street if guard = 0; moves 1000");
        due("from 23", x.by(0, 0, 0, 4), 100 + 23 * 100 + 23 * 12);
        due("to a MAN none", x.by(0, 23, 0, 4), 0);
        x.beside(0, 23, false);
        due("from 22", x.by(0, 0, 0, 4), 100 + 22 * 100 + 11 * 23);
    }

    private static void expectedOfTheMost() {
        about("II: EXPECTED of the most that may be");
        GuardedStreets x = new GuardedStreets();
        for (int s = 0; s < 24; s++) {
            x.street(999, 999, s > 0);
            x.beside(0, s, true);
        }
        x.start(0);
        withLaw(x, "steal 99999 if guard = 0; moves 1000");
        due("24 times", x.by(0, 0, 259, 4), 24 * 99999);
    }
}
