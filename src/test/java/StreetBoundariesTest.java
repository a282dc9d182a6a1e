/** Part I of the document, promises 1 to 8 and 31: of each sentence that names a boundary case a test of its own. */
public final class StreetBoundariesTest {
    private static final int LEAST = Integer.MIN_VALUE;
    private static final int MOST = Integer.MAX_VALUE;
    private static final int NONE = GuardedStreets.NONE;

    private StreetBoundariesTest() {
    }

    public static void main(String[] args) {
        theConstant();
        noStreets();
        noLaws();
        nothingElseIsTold();
        objectsAreTheirOwn();
        nowIsItsOwnWeek();
        nowIsALaterWeek();
        clockOfAnEarlierWeek();
        clockOfNoWeek();
        streetNumbers();
        streetWhenThereAre24();
        streetOfTooFewOrTooManyCars();
        streetOfTooSmallOrTooGreatAWish();
        aRefusedStreetTakesNoNumber();
        besideOfUnlikeStreets();
        besideOfLikeStreets();
        besideOfTheLastStreets();
        besideWithoutThese();
        besideIfItIsSo();
        besideNoMoreIfItIsSo();
        ringZero();
        ringOne();
        ringTwo();
        ringThree();
        ringWithoutAnyHouse();
        ringWithoutIt();
        ringOfAllStreets();
        startIsAWeek();
        startIsNone();
        startOfOthers();
        aManStandsFromStartOn();
        aManFromTheFirstWeek();
        aManInTheLastWeek();
        noManWithoutStart();
        noManWithoutAHouse();
        bookWhatItWas();
        bookOfNothing();
        bookOfTooMany();
        bookOfAWeekBehindNow();
        bookOfNoWeek();
        bookOfNoDeed();
        bookOfNoStreet();
        bookOfTheLastOfAll();
        filmWhatItWas();
        filmOfNothing();
        filmOfTooMany();
        filmOfAWeekBehindNow();
        filmOfNoWeek();
        filmOfNoStreet();
        filmOfTheLastOfAll();
        countOfAnEmptyObject();
        countOfAFullObject();
        countOfBooksThatTellSomething();
        countOfFilmsThatTellSomething();
        countOfPairs();
        countOfOthers();
        theLastOfAllCalls();
        Due.end();
    }

    private static void about(String sentence) {
        Due.about(sentence);
    }

    private static void due(String call, long got, long want) {
        Due.due(call, got, want);
    }

    private static void due(String call, boolean got, boolean want) {
        Due.due(call, got, want);
    }

    private static void dueNothingHappened(GuardedStreets x, String before) {
        String now = State.of(x);
        Due.due("nothing happens (" + before + " became " + now + ")", now.equals(before), true);
    }

    private static void theConstant() {
        about("NONE = -1");
        due("NONE", GuardedStreets.NONE, -1);
    }

    private static void noStreets() {
        about("1: No STREETS");
        GuardedStreets x = new GuardedStreets();
        due("count(1)", x.count(1), 0);
        due("ring(0)", x.ring(0), -1);
        due("book(0, 0, 0, 0)", x.book(0, 0, 0, 0), -2);
        due("film(0, 0, 0)", x.film(0, 0, 0), -2);
        due("like(0)", x.like(0), -1);
        due("street", x.street(0, 0, true), 0);
    }

    private static void noLaws() {
        about("1: no LAWS");
        GuardedStreets x = new GuardedStreets();
        due("count(5)", x.count(5), 0);
        x.street(0, 0, true);
        due("by(0, 0, 0, 0)", x.by(0, 0, 0, 0), -1);
        due("miss(0, 0, 0)", x.miss(0, 0, 0), -1);
        due("run(0, 0, 0, 0, 0)", x.run(0, 0, 0, 0, 0), -1);
        due("towns(0, 0, 1, 1)", x.towns(0, 0, 1, 1), -1);
        due("plan(1, 0, 0, 1)", x.plan(1, 0, 0, 1), -1);
        due("law", Due.law(x, "steal 1"), 0);
    }

    private static void nothingElseIsTold() {
        about("I: NOW (0 at first), START none at first, nothing at first");
        GuardedStreets x = new GuardedStreets();
        due("NOW", x.count(0), 0);
        due("START", x.start(-1), -1);
        due("pairs", x.count(2), 0);
        due("BOOKS", x.count(3), 0);
        due("FILMS", x.count(4), 0);
        due("bytes of the TAPE", x.count(6), 0);
        x.clock(259);
        x.street(1, 1, true);
        for (int deed = 0; deed < 4; deed++) {
            due("BOOK of DEED " + deed + " at first", x.book(0, 0, deed, -1), -1);
            due("BOOK of DEED " + deed + " at last", x.book(0, 259, deed, -1), -1);
        }
        due("FILM at first", x.film(0, 0, -1), -1);
        due("FILM at last", x.film(0, 259, -1), -1);
    }

    private static void objectsAreTheirOwn() {
        about("1: A new object, beside another one");
        GuardedStreets other = Made.busy();
        other.image(0);
        GuardedStreets x = new GuardedStreets();
        for (int what = 0; what < 7; what++) {
            due("count(" + what + ")", x.count(what), 0);
        }
        due("back(0)", x.back(0), -1);
        due("the other's STREETS", other.count(1), 2);
    }

    private static void nowIsItsOwnWeek() {
        about("2: NOW is a WEEK, its own: true");
        GuardedStreets x = new GuardedStreets();
        due("clock(0)", x.clock(0), true);
        due("NOW", x.count(0), 0);
        x.clock(5);
        due("clock(5) again", x.clock(5), true);
        due("NOW", x.count(0), 5);
        x.clock(259);
        due("clock(259) again", x.clock(259), true);
        due("NOW", x.count(0), 259);
    }

    private static void nowIsALaterWeek() {
        about("2: or a later one: true");
        GuardedStreets x = new GuardedStreets();
        due("clock(1)", x.clock(1), true);
        due("NOW", x.count(0), 1);
        due("clock(258)", x.clock(258), true);
        due("NOW", x.count(0), 258);
        due("clock(259)", x.clock(259), true);
        due("NOW", x.count(0), 259);
    }

    private static void clockOfAnEarlierWeek() {
        about("2: false, and nothing happens, for others: an earlier WEEK");
        GuardedStreets x = Made.busy();
        String before = State.of(x);
        due("clock(0)", x.clock(0), false);
        dueNothingHappened(x, before);
        x.clock(259);
        due("clock(258)", x.clock(258), false);
        due("NOW", x.count(0), 259);
    }

    private static void clockOfNoWeek() {
        about("2: false, and nothing happens, for others: no WEEK");
        GuardedStreets x = Made.busy();
        String before = State.of(x);
        due("clock(-1)", x.clock(-1), false);
        due("clock(260)", x.clock(260), false);
        due("clock(least)", x.clock(LEAST), false);
        due("clock(most)", x.clock(MOST), false);
        dueNothingHappened(x, before);
        due("clock(-1) of a new object", new GuardedStreets().clock(-1), false);
        due("clock(260) of a new object", new GuardedStreets().clock(260), false);
    }

    private static void streetNumbers() {
        about("3: A STREET: its number (STREETS 0 to 23)");
        GuardedStreets x = new GuardedStreets();
        for (int s = 0; s < 24; s++) {
            due("street", x.street(s, 2 * s, s % 2 == 0), s);
            due("STREETS", x.count(1), s + 1);
        }
    }

    private static void streetWhenThereAre24() {
        about("3: NONE: there are 24");
        GuardedStreets x = Made.allStreets();
        due("a 25th", x.street(1, 1, true), -1);
        due("a 25th that is not as told", x.street(-1, 1, true), -1);
        due("STREETS", x.count(1), 24);
        due("ring(24)", x.ring(24), -1);
        due("ring(23)", x.ring(23), 3);
        due("law", Due.law(x, "steal cars"), 0);
        due("cars of 0", x.by(0, 0, 0, 0), 0);
        due("cars of 23", x.by(0, 23, 0, 0), 23);
    }

    private static void streetOfTooFewOrTooManyCars() {
        about("3: NONE: something is not as told: cars (0 to 999)");
        GuardedStreets x = new GuardedStreets();
        due("-1", x.street(-1, 5, true), -1);
        due("1000", x.street(1000, 5, true), -1);
        due("least", x.street(LEAST, 5, false), -1);
        due("most", x.street(MOST, 5, false), -1);
        due("STREETS", x.count(1), 0);
        due("0", x.street(0, 5, true), 0);
        due("999", x.street(999, 5, true), 1);
        Due.law(x, "steal cars");
        due("cars of 0", x.by(0, 0, 0, 0), 0);
        due("cars of 1", x.by(0, 1, 0, 0), 999);
    }

    private static void streetOfTooSmallOrTooGreatAWish() {
        about("3: NONE: something is not as told: wish (0 to 999)");
        GuardedStreets x = new GuardedStreets();
        due("-1", x.street(5, -1, true), -1);
        due("1000", x.street(5, 1000, true), -1);
        due("least", x.street(5, LEAST, false), -1);
        due("most", x.street(5, MOST, false), -1);
        due("STREETS", x.count(1), 0);
        due("0", x.street(5, 0, true), 0);
        due("999", x.street(5, 999, true), 1);
        Due.law(x, "steal wish");
        due("wish of 0", x.by(0, 0, 0, 0), 0);
        due("wish of 1", x.by(0, 1, 0, 0), 999);
    }

    private static void aRefusedStreetTakesNoNumber() {
        about("3: NONE: a refused one takes no number");
        GuardedStreets x = Made.busy();
        String before = State.of(x);
        due("cars 1000", x.street(1000, 0, true), -1);
        due("wish -1", x.street(0, -1, true), -1);
        dueNothingHappened(x, before);
        due("the next one", x.street(0, 0, true), 2);
    }

    private static void besideOfUnlikeStreets() {
        about("4: Two STREETS (unlike) are BESIDE one another, or no more: true");
        GuardedStreets x = Made.allStreets();
        due("beside(0, 1, true)", x.beside(0, 1, true), true);
        due("pairs", x.count(2), 1);
        due("beside(1, 0, false)", x.beside(1, 0, false), true);
        due("pairs", x.count(2), 0);
    }

    private static void besideOfLikeStreets() {
        about("4: (unlike): false, and nothing happens");
        GuardedStreets x = Made.busy();
        String before = State.of(x);
        for (int s = 0; s < 2; s++) {
            due("beside itself", x.beside(s, s, true), false);
            due("beside itself no more", x.beside(s, s, false), false);
        }
        dueNothingHappened(x, before);
    }

    private static void besideOfTheLastStreets() {
        about("4: Two STREETS, the first and the last");
        GuardedStreets x = Made.allStreets();
        due("beside(0, 23, true)", x.beside(0, 23, true), true);
        due("beside(23, 22, true)", x.beside(23, 22, true), true);
        due("pairs", x.count(2), 2);
        due("beside(22, 23, false)", x.beside(22, 23, false), true);
        due("beside(23, 0, true) already", x.beside(23, 0, true), false);
        due("beside(23, 0, false)", x.beside(23, 0, false), true);
        due("pairs", x.count(2), 0);
    }

    private static void besideWithoutThese() {
        about("4: false, and nothing happens, without these");
        GuardedStreets x = Made.busy();
        String before = State.of(x);
        int[] none = {-1, 2, 23, 24, 32, 33, -32, LEAST, MOST};
        for (int s : none) {
            due("beside(0, " + s + ", true)", x.beside(0, s, true), false);
            due("beside(" + s + ", 0, true)", x.beside(s, 0, true), false);
            due("beside(" + s + ", 1, false)", x.beside(s, 1, false), false);
            due("beside(1, " + s + ", false)", x.beside(1, s, false), false);
        }
        due("beside(-1, -2, true)", x.beside(-1, -2, true), false);
        dueNothingHappened(x, before);
        due("of a new object", new GuardedStreets().beside(0, 1, true), false);
    }

    private static void besideIfItIsSo() {
        about("4: false, and nothing happens, if it is so");
        GuardedStreets x = Made.busy();
        String before = State.of(x);
        due("beside(0, 1, true) again", x.beside(0, 1, true), false);
        due("beside(1, 0, true) again", x.beside(1, 0, true), false);
        dueNothingHappened(x, before);
    }

    private static void besideNoMoreIfItIsSo() {
        about("4: false, and nothing happens, if it is so: they aren't BESIDE one another");
        GuardedStreets x = Made.busy();
        x.beside(0, 1, false);
        String before = State.of(x);
        due("beside(0, 1, false) again", x.beside(0, 1, false), false);
        due("beside(1, 0, false) again", x.beside(1, 0, false), false);
        dueNothingHappened(x, before);
    }

    private static void ringZero() {
        about("5: RING 0 with a house");
        GuardedStreets x = Made.allStreets();
        due("without one", x.ring(23), 3);
        GuardedStreets y = new GuardedStreets();
        y.street(0, 0, true);
        y.street(0, 0, true);
        y.beside(0, 1, true);
        due("also BESIDE one with a house", y.ring(0), 0);
        due("also BESIDE one with a house", y.ring(1), 0);
    }

    private static void ringOne() {
        about("5: RING 1 BESIDE one with a house");
        GuardedStreets x = Made.fiveStreets();
        due("ring(1)", x.ring(1), 1);
        x.beside(2, 0, true);
        due("also BESIDE one of RING 1", x.ring(2), 1);
        x.beside(2, 0, false);
        due("no more", x.ring(2), 2);
        x.street(0, 0, true);
        x.beside(4, 5, true);
        due("of a later house", x.ring(4), 1);
    }

    private static void ringTwo() {
        about("5: RING 2 BESIDE one of RING 1");
        GuardedStreets x = Made.fiveStreets();
        due("ring(2)", x.ring(2), 2);
        x.beside(4, 1, true);
        due("a later one", x.ring(4), 2);
        x.beside(4, 2, true);
        due("also BESIDE one of RING 2", x.ring(4), 2);
        x.beside(0, 1, false);
        due("no house, no RING 1", x.ring(2), 3);
    }

    private static void ringThree() {
        about("5: RING 3 all others");
        GuardedStreets x = Made.fiveStreets();
        due("apart", x.ring(3), 3);
        x.beside(2, 3, true);
        due("BESIDE one of RING 2", x.ring(3), 3);
        x.beside(3, 4, true);
        due("BESIDE one of RING 3", x.ring(4), 3);
    }

    private static void ringWithoutAnyHouse() {
        about("5: RING 3 all others: without any house");
        GuardedStreets x = Made.allStreets();
        x.beside(0, 1, true);
        x.beside(1, 2, true);
        for (int s = 0; s < 24; s++) {
            due("ring(" + s + ")", x.ring(s), 3);
        }
    }

    private static void ringWithoutIt() {
        about("5: NONE without it");
        GuardedStreets x = Made.fiveStreets();
        int[] none = {-1, 5, 23, 24, 31, 32, -32, LEAST, MOST};
        for (int s : none) {
            due("ring(" + s + ")", x.ring(s), -1);
        }
        due("of a new object", new GuardedStreets().ring(0), -1);
    }

    private static void ringOfAllStreets() {
        about("5: RING of 24 STREETS in a row, a house in the last");
        GuardedStreets x = new GuardedStreets();
        for (int s = 0; s < 24; s++) {
            x.street(0, 0, s == 23);
            x.beside(s, s - 1, true);
        }
        for (int s = 0; s < 24; s++) {
            due("ring(" + s + ")", x.ring(s), Math.min(3, 23 - s));
        }
    }

    private static void startIsAWeek() {
        about("6: START becomes a WEEK: what it was (NONE)");
        GuardedStreets x = new GuardedStreets();
        due("start(0)", x.start(0), -1);
        due("start(259)", x.start(259), 0);
        due("start(259) again", x.start(259), 259);
        due("start(1)", x.start(1), 259);
    }

    private static void startIsNone() {
        about("6: (NONE: none)");
        GuardedStreets x = new GuardedStreets();
        due("none already", x.start(NONE), -1);
        x.start(7);
        due("none again", x.start(NONE), 7);
        due("none now", x.start(3), -1);
    }

    private static void startOfOthers() {
        about("6: -2, and nothing happens, for others");
        GuardedStreets x = Made.busy();
        String before = State.of(x);
        due("start(-2)", x.start(-2), -2);
        due("start(260)", x.start(260), -2);
        due("start(least)", x.start(LEAST), -2);
        due("start(most)", x.start(MOST), -2);
        dueNothingHappened(x, before);
        due("start(1)", x.start(1), 1);
    }

    private static void dueMan(GuardedStreets x, int street, int week, int want) {
        due("a MAN in STREET " + street + " in WEEK " + week, x.by(0, street, week, 0), want);
    }

    private static void aManStandsFromStartOn() {
        about("I: he stands in WEEKS not ahead of START");
        GuardedStreets x = Made.fiveStreets();
        Due.law(x, "steal guard");
        x.start(100);
        dueMan(x, 0, 0, 0);
        dueMan(x, 0, 99, 0);
        dueMan(x, 0, 100, 1);
        dueMan(x, 0, 101, 1);
        dueMan(x, 0, 259, 1);
    }

    private static void aManFromTheFirstWeek() {
        about("I: he stands in WEEKS not ahead of START: START 0");
        GuardedStreets x = Made.fiveStreets();
        Due.law(x, "steal guard");
        x.start(0);
        dueMan(x, 0, 0, 1);
        dueMan(x, 0, 259, 1);
    }

    private static void aManInTheLastWeek() {
        about("I: he stands in WEEKS not ahead of START: START 259");
        GuardedStreets x = Made.fiveStreets();
        Due.law(x, "steal guard");
        x.start(259);
        dueMan(x, 0, 258, 0);
        dueMan(x, 0, 259, 1);
    }

    private static void noManWithoutStart() {
        about("I: START: a WEEK, or none: then no MAN stands");
        GuardedStreets x = Made.fiveStreets();
        Due.law(x, "steal guard");
        dueMan(x, 0, 0, 0);
        dueMan(x, 0, 259, 0);
        x.start(0);
        x.start(NONE);
        dueMan(x, 0, 0, 0);
        dueMan(x, 0, 259, 0);
    }

    private static void noManWithoutAHouse() {
        about("I: a MAN stands in each STREET with a house");
        GuardedStreets x = Made.fiveStreets();
        x.street(1, 1, true);
        Due.law(x, "steal guard");
        x.start(0);
        dueMan(x, 0, 1, 1);
        dueMan(x, 1, 1, 0);
        dueMan(x, 4, 1, 0);
        dueMan(x, 5, 1, 1);
    }

    private static void bookWhatItWas() {
        about("7: What the BOOK tells becomes n: what it was (NONE)");
        GuardedStreets x = Made.oneStreet();
        due("99 at first", x.book(0, 0, 0, 99), -1);
        due("0", x.book(0, 0, 0, 0), 99);
        due("1", x.book(0, 0, 0, 1), 0);
        due("another DEED's", x.book(0, 0, 3, 5), -1);
        due("1 again", x.book(0, 0, 0, 1), 1);
        due("another DEED's again", x.book(0, 0, 3, 6), 5);
    }

    private static void bookOfNothing() {
        about("7: (NONE: nothing)");
        GuardedStreets x = Made.oneStreet();
        due("nothing at first", x.book(0, 0, 0, NONE), -1);
        x.book(0, 0, 0, 99);
        due("nothing any more", x.book(0, 0, 0, NONE), 99);
        due("nothing still", x.book(0, 0, 0, NONE), -1);
        due("BOOKS", x.count(3), 0);
        due("SHARE", x.share(3, 0, 0, 0, 1), 0);
    }

    private static void bookOfTooMany() {
        about("7: -2, and nothing happens, for others: how many (0 to 99)");
        GuardedStreets x = Made.busy();
        String before = State.of(x);
        due("100", x.book(0, 0, 0, 100), -2);
        due("-2", x.book(0, 0, 0, -2), -2);
        due("255", x.book(0, 0, 0, 255), -2);
        due("256", x.book(0, 0, 0, 256), -2);
        due("least", x.book(0, 0, 0, LEAST), -2);
        due("most", x.book(0, 0, 0, MOST), -2);
        dueNothingHappened(x, before);
    }

    private static void bookOfAWeekBehindNow() {
        about("7: -2, and nothing happens, for others: of WEEKS not behind NOW");
        GuardedStreets x = Made.busy();
        String before = State.of(x);
        due("WEEK 2", x.book(0, 2, 0, 1), -2);
        due("WEEK 2, nothing", x.book(0, 2, 0, NONE), -2);
        due("WEEK 259", x.book(0, 259, 0, 1), -2);
        dueNothingHappened(x, before);
        due("WEEK 1", x.book(0, 1, 0, 1), -1);
        x.clock(2);
        due("WEEK 2 at NOW 2", x.book(0, 2, 0, 1), -1);
        due("WEEK 3 at NOW 2", x.book(0, 3, 0, 1), -2);
        due("WEEK 0 of a new object", Made.oneStreet().book(0, 0, 0, 1), -1);
        due("WEEK 1 of a new object", Made.oneStreet().book(0, 1, 0, 1), -2);
    }

    private static void bookOfNoWeek() {
        about("7: -2, and nothing happens, for others: WEEKS 0 to 259");
        GuardedStreets x = Made.busy();
        x.clock(259);
        String before = State.of(x);
        due("WEEK -1", x.book(1, -1, 0, 1), -2);
        due("WEEK 260", x.book(0, 260, 0, 1), -2);
        due("WEEK least", x.book(0, LEAST, 0, 1), -2);
        due("WEEK most", x.book(0, MOST, 0, 1), -2);
        dueNothingHappened(x, before);
    }

    private static void bookOfNoDeed() {
        about("7: -2, and nothing happens, for others: DEEDS 0 to 3");
        GuardedStreets x = Made.busy();
        String before = State.of(x);
        due("DEED -1", x.book(0, 1, -1, 1), -2);
        due("DEED 4", x.book(0, 0, 4, 1), -2);
        due("DEED least", x.book(0, 0, LEAST, 1), -2);
        due("DEED most", x.book(0, 0, MOST, 1), -2);
        dueNothingHappened(x, before);
        for (int deed = 0; deed < 4; deed++) {
            due("DEED " + deed, x.book(1, 0, deed, 40 + deed), -1);
        }
        for (int deed = 0; deed < 4; deed++) {
            due("DEED " + deed + " again", x.book(1, 0, deed, 1), 40 + deed);
        }
    }

    private static void bookOfNoStreet() {
        about("7: -2, and nothing happens, for others: without the STREET");
        GuardedStreets x = Made.busy();
        String before = State.of(x);
        int[] none = {-1, 2, 23, 24, LEAST, MOST};
        for (int s : none) {
            due("STREET " + s, x.book(s, 0, 0, 1), -2);
            due("STREET " + s + ", nothing", x.book(s, 0, 0, NONE), -2);
        }
        dueNothingHappened(x, before);
    }

    private static void bookOfTheLastOfAll() {
        about("7: the last STREET, WEEK and DEED");
        GuardedStreets x = Made.allStreets();
        x.clock(259);
        due("at first", x.book(23, 259, 3, 99), -1);
        due("the next DEED's", x.book(23, 259, 2, 98), -1);
        due("the WEEK's ahead", x.book(23, 258, 3, 97), -1);
        due("the STREET's ahead", x.book(22, 259, 3, 96), -1);
        due("again", x.book(23, 259, 3, 0), 99);
        due("BOOKS", x.count(3), 4);
    }

    private static void filmWhatItWas() {
        about("8: Likewise the FILM: becomes n: what it was (NONE)");
        GuardedStreets x = Made.oneStreet();
        due("999 at first", x.film(0, 0, 999), -1);
        due("0", x.film(0, 0, 0), 999);
        due("1", x.film(0, 0, 1), 0);
        due("no BOOK of it", x.book(0, 0, 0, NONE), -1);
    }

    private static void filmOfNothing() {
        about("8: Likewise (NONE: nothing)");
        GuardedStreets x = Made.oneStreet();
        due("nothing at first", x.film(0, 0, NONE), -1);
        x.film(0, 0, 999);
        due("nothing any more", x.film(0, 0, NONE), 999);
        due("nothing still", x.film(0, 0, NONE), -1);
        due("FILMS", x.count(4), 0);
    }

    private static void filmOfTooMany() {
        about("8: -2, and nothing happens, for others: cars seen (0 to 999)");
        GuardedStreets x = Made.busy();
        String before = State.of(x);
        due("1000", x.film(1, 0, 1000), -2);
        due("-2", x.film(1, 0, -2), -2);
        due("65535", x.film(1, 0, 65535), -2);
        due("65536", x.film(1, 0, 65536), -2);
        due("least", x.film(1, 0, LEAST), -2);
        due("most", x.film(1, 0, MOST), -2);
        dueNothingHappened(x, before);
    }

    private static void filmOfAWeekBehindNow() {
        about("8: -2, and nothing happens, for others: of WEEKS not behind NOW");
        GuardedStreets x = Made.busy();
        String before = State.of(x);
        due("WEEK 2", x.film(0, 2, 1), -2);
        due("WEEK 2, nothing", x.film(0, 2, NONE), -2);
        due("WEEK 259", x.film(0, 259, 1), -2);
        dueNothingHappened(x, before);
        due("WEEK 1", x.film(1, 1, 1), -1);
        x.clock(2);
        due("WEEK 2 at NOW 2", x.film(0, 2, 1), -1);
        due("WEEK 3 at NOW 2", x.film(0, 3, 1), -2);
        due("WEEK 0 of a new object", Made.oneStreet().film(0, 0, 1), -1);
        due("WEEK 1 of a new object", Made.oneStreet().film(0, 1, 1), -2);
    }

    private static void filmOfNoWeek() {
        about("8: -2, and nothing happens, for others: WEEKS 0 to 259");
        GuardedStreets x = Made.busy();
        x.clock(259);
        String before = State.of(x);
        due("WEEK -1", x.film(1, -1, 1), -2);
        due("WEEK 260", x.film(0, 260, 1), -2);
        due("WEEK least", x.film(0, LEAST, 1), -2);
        due("WEEK most", x.film(0, MOST, 1), -2);
        dueNothingHappened(x, before);
    }

    private static void filmOfNoStreet() {
        about("8: -2, and nothing happens, for others: without the STREET");
        GuardedStreets x = Made.busy();
        String before = State.of(x);
        int[] none = {-1, 2, 23, 24, LEAST, MOST};
        for (int s : none) {
            due("STREET " + s, x.film(s, 0, 1), -2);
            due("STREET " + s + ", nothing", x.film(s, 0, NONE), -2);
        }
        dueNothingHappened(x, before);
    }

    private static void filmOfTheLastOfAll() {
        about("8: the last STREET and WEEK");
        GuardedStreets x = Made.allStreets();
        x.clock(259);
        due("at first", x.film(23, 259, 999), -1);
        due("the WEEK's ahead", x.film(23, 258, 998), -1);
        due("the STREET's ahead", x.film(22, 259, 997), -1);
        due("again", x.film(23, 259, 0), 999);
        due("FILMS", x.count(4), 3);
    }

    private static void countOfAnEmptyObject() {
        about("31: What 0 to 6 of an object of which nothing is told");
        GuardedStreets x = new GuardedStreets();
        for (int what = 0; what < 7; what++) {
            due("count(" + what + ")", x.count(what), 0);
        }
    }

    private static void countOfAFullObject() {
        about("31: What 0 to 6 of a full object");
        GuardedStreets x = Made.allStreets();
        x.clock(259);
        for (int a = 0; a < 24; a++) {
            for (int b = 0; b < a; b++) {
                x.beside(a, b, true);
            }
        }
        for (int i = 0; i < 8; i++) {
            Due.law(x, "told 1");
        }
        for (int i = 0; i < 20; i++) {
            x.feed(1, 2, 3, 4, 5);
        }
        due("NOW", x.count(0), 259);
        due("STREETS", x.count(1), 24);
        due("pairs", x.count(2), 276);
        due("LAWS", x.count(5), 8);
        due("bytes of the TAPE", x.count(6), 400);
    }

    private static void countOfBooksThatTellSomething() {
        about("31: 3: BOOKS that tell something (of all DEEDS)");
        GuardedStreets x = Made.oneStreet();
        x.clock(1);
        for (int deed = 0; deed < 4; deed++) {
            x.book(0, 0, deed, deed);
            due("with DEED " + deed, x.count(3), deed + 1);
        }
        x.book(0, 0, 3, 7);
        due("told anew", x.count(3), 4);
        x.book(0, 1, 3, 0);
        due("of another WEEK", x.count(3), 5);
        x.book(0, 0, 0, NONE);
        due("one less", x.count(3), 4);
        x.book(0, 0, 0, NONE);
        due("still", x.count(3), 4);
        due("no FILMS", x.count(4), 0);
    }

    private static void countOfFilmsThatTellSomething() {
        about("31: 4: FILMS likewise");
        GuardedStreets x = Made.oneStreet();
        x.clock(1);
        x.film(0, 0, 0);
        due("of 0 cars", x.count(4), 1);
        x.film(0, 0, 9);
        due("told anew", x.count(4), 1);
        x.film(0, 1, 999);
        due("of another WEEK", x.count(4), 2);
        x.film(0, 0, NONE);
        due("one less", x.count(4), 1);
        x.film(0, 0, NONE);
        due("still", x.count(4), 1);
        due("no BOOKS", x.count(3), 0);
    }

    private static void countOfPairs() {
        about("31: 2: pairs BESIDE");
        GuardedStreets x = Made.allStreets();
        x.beside(0, 23, true);
        due("one", x.count(2), 1);
        x.beside(23, 0, true);
        due("the same", x.count(2), 1);
        x.beside(1, 23, true);
        due("two", x.count(2), 2);
    }

    private static void countOfOthers() {
        about("31: NONE for others");
        GuardedStreets x = Made.busy();
        due("count(-1)", x.count(-1), -1);
        due("count(7)", x.count(7), -1);
        due("count(least)", x.count(LEAST), -1);
        due("count(most)", x.count(MOST), -1);
    }

    private static void theLastOfAllCalls() {
        about("An object is used for at most 512 calls");
        GuardedStreets x = new GuardedStreets();
        for (int call = 1; call < 512; call++) {
            due("call " + call, x.street(1, 1, false), call <= 24 ? call - 1 : -1);
        }
        due("call 512", x.count(1), 24);
        GuardedStreets y = Made.oneStreet();
        y.clock(259);
        for (int call = 3; call < 512; call++) {
            due("call " + call, y.book(0, call % 260, call / 260, call % 100), -1);
        }
        due("call 512", y.count(3), 509);
    }
}
