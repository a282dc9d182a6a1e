/** Promise by promise: ordinary calls, the edges that the document names, and wrong ones. */
public final class PromisesTest {
    private static final int LEAST = Integer.MIN_VALUE;
    private static final int MOST = Integer.MAX_VALUE;

    private PromisesTest() {
    }

    public static void main(String[] args) {
        aNewObject();
        clock();
        street();
        beside();
        ring();
        start();
        book();
        film();
        feedAndEnd();
        law();
        by();
        byWords();
        byArithmetic();
        byTests();
        byClauses();
        byNeighbours();
        share();
        differ();
        differAtTheEnds();
        alike();
        off();
        thin();
        cars();
        edge();
        cost();
        where();
        like();
        deeds();
        miss();
        best();
        run();
        towns();
        plan();
        imageAndBack();
        count();
        Due.end();
    }

    private static void due(String call, long got, long want) {
        Due.due(call, got, want);
    }

    private static void due(String call, boolean got, boolean want) {
        Due.due(call, got, want);
    }

    private static int law(GuardedStreets x, String text) {
        return Due.law(x, text);
    }

    private static void aNewObject() {
        GuardedStreets x = new GuardedStreets();
        due("NONE", GuardedStreets.NONE, -1);
        for (int what = 0; what < 7; what++) {
            due("1: count(" + what + ")", x.count(what), 0);
        }
        due("1: start(NONE)", x.start(-1), -1);
        due("1: ring(0)", x.ring(0), -1);
        due("1: by", x.by(0, 0, 0, 0), -1);
        due("1: miss", x.miss(0, 0, 0), -1);
        for (int k = 0; k < 4; k++) {
            due("1: back(" + k + ")", x.back(k), -1);
        }
        GuardedStreets y = new GuardedStreets();
        x.street(1, 1, true);
        x.clock(7);
        due("1: another object", y.count(0) + y.count(1), 0);
    }

    private static void clock() {
        GuardedStreets x = new GuardedStreets();
        due("2: clock(0)", x.clock(0), true);
        due("2: clock(-1)", x.clock(-1), false);
        due("2: clock(260)", x.clock(260), false);
        due("2: clock(least)", x.clock(LEAST), false);
        due("2: clock(most)", x.clock(MOST), false);
        due("2: NOW", x.count(0), 0);
        due("2: clock(5)", x.clock(5), true);
        due("2: clock(5) again", x.clock(5), true);
        due("2: clock(4)", x.clock(4), false);
        due("2: NOW", x.count(0), 5);
        due("2: clock(259)", x.clock(259), true);
        due("2: clock(260)", x.clock(260), false);
        due("2: NOW", x.count(0), 259);
    }

    private static void street() {
        GuardedStreets x = new GuardedStreets();
        due("3: cars -1", x.street(-1, 0, true), -1);
        due("3: cars 1000", x.street(1000, 0, true), -1);
        due("3: wish -1", x.street(0, -1, true), -1);
        due("3: wish 1000", x.street(0, 1000, true), -1);
        due("3: least", x.street(LEAST, MOST, false), -1);
        due("3: none yet", x.count(1), 0);
        due("3: 0, 0", x.street(0, 0, false), 0);
        due("3: 999, 999", x.street(999, 999, true), 1);
        for (int s = 2; s < 24; s++) {
            due("3: STREET " + s, x.street(s, s, false), s);
        }
        due("3: a 25th", x.street(1, 1, false), -1);
        due("3: 24", x.count(1), 24);
        due("3: cars as told", law(x, "steal cars"), 0);
        due("3: 999 cars", x.by(0, 1, 0, 0), 999);
        due("3: the last one's cars", x.by(0, 23, 0, 0), 23);
    }

    private static void beside() {
        GuardedStreets x = new GuardedStreets();
        due("4: no STREETS", x.beside(0, 1, true), false);
        x.street(0, 0, true);
        x.street(0, 0, false);
        x.street(0, 0, false);
        due("4: no STREET 3", x.beside(0, 3, true), false);
        due("4: no STREET -1", x.beside(-1, 0, true), false);
        due("4: like ones", x.beside(1, 1, true), false);
        due("4: like ones, no more", x.beside(1, 1, false), false);
        due("4: not BESIDE already", x.beside(0, 1, false), false);
        due("4: BESIDE", x.beside(0, 1, true), true);
        due("4: BESIDE already", x.beside(0, 1, true), false);
        due("4: the other way round, too", x.beside(1, 0, true), false);
        due("4: pairs", x.count(2), 1);
        due("4: another pair", x.beside(2, 1, true), true);
        due("4: pairs", x.count(2), 2);
        due("4: no more", x.beside(1, 0, false), true);
        due("4: no more already", x.beside(0, 1, false), false);
        due("4: pairs", x.count(2), 1);
        due("4: RING of 2", x.ring(2), 3);
        due("4: least", x.beside(LEAST, MOST, true), false);
    }

    private static void ring() {
        GuardedStreets x = Made.fiveStreets();
        int[] rings = {0, 1, 2, 3, 3};
        for (int s = 0; s < 5; s++) {
            due("5: ring(" + s + ")", x.ring(s), rings[s]);
        }
        due("5: ring(5)", x.ring(5), -1);
        due("5: ring(-1)", x.ring(-1), -1);
        due("5: ring(least)", x.ring(LEAST), -1);
        due("5: ring(most)", x.ring(MOST), -1);
        x.beside(2, 3, true);
        due("5: BESIDE one of RING 2", x.ring(3), 3);
        x.beside(0, 2, true);
        due("5: the nearest counts", x.ring(2), 1);
        due("5: now BESIDE one of RING 1", x.ring(3), 2);
        x.street(0, 0, true);
        x.beside(4, 5, true);
        x.beside(0, 5, true);
        due("5: a house beside a house", x.ring(5), 0);
        due("5: BESIDE a later house", x.ring(4), 1);
    }

    private static void start() {
        GuardedStreets x = new GuardedStreets();
        due("6: none", x.start(-1), -1);
        due("6: a WEEK behind NOW", x.start(259), -1);
        due("6: 260", x.start(260), -2);
        due("6: -2", x.start(-2), -2);
        due("6: least", x.start(LEAST), -2);
        due("6: 0", x.start(0), 259);
        due("6: none again", x.start(-1), 0);
        due("6: still none", x.start(3), -1);
    }

    private static void book() {
        GuardedStreets x = new GuardedStreets();
        x.clock(2);
        x.street(1, 1, true);
        due("7: first", x.book(0, 2, 3, 99), -1);
        due("7: again", x.book(0, 2, 3, 0), 99);
        due("7: 0 is told", x.book(0, 2, 3, 0), 0);
        due("7: another DEED", x.book(0, 2, 2, 5), -1);
        due("7: another WEEK", x.book(0, 0, 3, 6), -1);
        due("7: two of them", x.count(3), 3);
        due("7: behind NOW", x.book(0, 3, 0, 1), -2);
        due("7: WEEK -1", x.book(0, -1, 0, 1), -2);
        due("7: DEED 4", x.book(0, 0, 4, 1), -2);
        due("7: DEED -1", x.book(0, 1, -1, 1), -2);
        due("7: 100", x.book(0, 0, 0, 100), -2);
        due("7: -2", x.book(0, 0, 0, -2), -2);
        due("7: no STREET", x.book(1, 0, 0, 1), -2);
        due("7: STREET -1", x.book(-1, 0, 0, 1), -2);
        due("7: least", x.book(LEAST, LEAST, LEAST, LEAST), -2);
        due("7: most", x.book(0, MOST, 0, 1), -2);
        due("7: nothing happened", x.count(3), 3);
        due("7: nothing", x.book(0, 2, 3, -1), 0);
        due("7: nothing again", x.book(0, 2, 3, -1), -1);
        due("7: two are left", x.count(3), 2);
        due("7: the others stay", x.book(0, 2, 2, 5), 5);
        x.clock(259);
        due("7: the last WEEK", x.book(0, 259, 0, 1), -1);
    }

    private static void film() {
        GuardedStreets x = new GuardedStreets();
        x.clock(2);
        x.street(1, 1, true);
        due("8: first", x.film(0, 2, 999), -1);
        due("8: again", x.film(0, 2, 0), 999);
        due("8: 0 is told", x.film(0, 2, 7), 0);
        due("8: another WEEK", x.film(0, 0, 6), -1);
        due("8: two", x.count(4), 2);
        due("8: behind NOW", x.film(0, 3, 1), -2);
        due("8: WEEK -1", x.film(0, -1, 1), -2);
        due("8: 1000", x.film(0, 1, 1000), -2);
        due("8: -2", x.film(0, 1, -2), -2);
        due("8: no STREET", x.film(1, 0, 1), -2);
        due("8: least", x.film(LEAST, LEAST, LEAST), -2);
        due("8: nothing happened", x.count(4), 2);
        due("8: nothing", x.film(0, 2, -1), 7);
        due("8: nothing again", x.film(0, 2, -1), -1);
        due("8: one is left", x.count(4), 1);
        due("8: no BOOKS", x.count(3), 0);
        x.clock(259);
        due("8: the last WEEK", x.film(0, 259, 1), -1);
    }

    private static void feedAndEnd() {
        GuardedStreets x = new GuardedStreets();
        due("10: end(0)", x.end(0), 0);
        due("10: end(1)", x.end(1), -1);
        due("10: end(-1)", x.end(-1), -1);
        due("9: the highest first", x.feed('s' << 24 | 't' << 16 | 'e' << 8 | 'a', 'l' << 24 | ' ' << 16 | '7' << 8 | ';',
                ' ' << 24 | 't' << 16 | 'o' << 8 | 'l', 'd' << 24 | ' ' << 16 | '1' << 8 | '0', '0' << 24 | '5' << 8), 20);
        due("10: end(18)", x.end(18), 18);
        due("10: end(19)", x.end(19), -1);
        due("10: end(-1)", x.end(-1), -1);
        due("9: bytes", x.count(6), 18);
        due("10: end(17)", x.end(17), 17);
        due("10: end(17) again", x.end(17), 17);
        due("11: a LAW", x.law(), 0);
        x.street(0, 0, false);
        due("11: 7", x.by(0, 0, 0, 0), 7);
        due("11: 100", x.by(0, 0, 0, 3), 100);
        for (int i = 1; i <= 20; i++) {
            due("9: " + 20 * i, x.feed(-1, LEAST, MOST, 0, i), 20 * i);
        }
        due("9: 420", x.feed(1, 2, 3, 4, 5), -1);
        due("9: 400 stay", x.count(6), 400);
        due("10: end(399)", x.end(399), 399);
        due("9: 419", x.feed(1, 2, 3, 4, 5), -1);
        due("10: end(380)", x.end(380), 380);
        due("9: 400", x.feed(1, 2, 3, 4, 5), 400);
        due("10: end(401)", x.end(401), -1);
        due("10: end(most)", x.end(MOST), -1);
        due("11: a byte above 127 stands nowhere", x.law(), -3);
        due("11: the TAPE is empty then", x.count(6), 0);
    }

    private static void law() {
        GuardedStreets x = new GuardedStreets();
        due("11: nothing on the TAPE", x.law(), -3);
        due("11: a FAULT", law(x, "steal 5 oops"), -2 - (1 + 8 * 8));
        due("11: no LAW of it", x.count(5), 0);
        for (int i = 0; i < 8; i++) {
            due("11: LAW " + i, law(x, "steal " + i), i);
            due("11: LAWS", x.count(5), i + 1);
        }
        due("11: a ninth", law(x, "steal 9"), -1);
        due("11: the TAPE stays then", x.count(6), 7);
        due("11: 8 LAWS", x.count(5), 8);
        x.street(0, 0, false);
        due("11: each is its own", x.by(5, 0, 0, 0) * 10 + x.by(7, 0, 0, 0), 57);
    }

    private static void by() {
        GuardedStreets x = Made.fiveStreets();
        x.start(3);
        law(x, "steal 5000 if guard = 0; steal 1000 if house = 1; moves 250; told 900");
        int[] without = {5000, 0, 250, 900, 4500};
        int[] with = {1000, 4000, 250, 900, 900};
        for (int what = 0; what < 5; what++) {
            due("12: ahead of START, what " + what, x.by(0, 0, 2, what), without[what]);
            due("12: at START, what " + what, x.by(0, 0, 3, what), with[what]);
            due("12: at the last WEEK, what " + what, x.by(0, 0, 259, what), with[what]);
        }
        due("12: with what comes from 0", x.by(0, 1, 3, 4), (5000 + 1000) * 9 / 10);
        due("12: what 5", x.by(0, 0, 0, 5), -1);
        due("12: what -1", x.by(0, 0, 0, -1), -1);
        due("12: LAW 1", x.by(1, 0, 0, 0), -1);
        due("12: LAW -1", x.by(-1, 0, 0, 0), -1);
        due("12: STREET 5", x.by(0, 5, 0, 0), -1);
        due("12: STREET -1", x.by(0, -1, 0, 0), -1);
        due("12: WEEK 260", x.by(0, 0, 260, 0), -1);
        due("12: WEEK -1", x.by(0, 0, -1, 0), -1);
        due("12: least", x.by(LEAST, LEAST, LEAST, LEAST), -1);
        due("12: most", x.by(MOST, MOST, MOST, MOST), -1);
        GuardedStreets y = new GuardedStreets();
        y.street(1, 1, false);
        law(y, "steal week");
        due("12: whatever is NOW", y.by(0, 0, 259, 0), 259);
    }

    private static void byWords() {
        GuardedStreets x = Made.fiveStreets();
        x.start(10);
        String[] words = {"cars", "wish", "guard", "ring", "week", "since", "house", "street"};
        int[][] dueAtTwelve = {{100, 10, 1, 0, 12, 2, 1, 0}, {60, 30, 0, 2, 12, 2, 0, 2}};
        for (int i = 0; i < words.length; i++) {
            due("12: " + words[i], law(x, "steal " + words[i]), i);
            due("12: " + words[i] + " of 0", x.by(i, 0, 12, 0), dueAtTwelve[0][i]);
            due("12: " + words[i] + " of 2", x.by(i, 2, 12, 0), dueAtTwelve[1][i]);
        }
        due("12: since, ahead", x.by(5, 0, 9, 0), 0);
        due("12: since, at", x.by(5, 0, 10, 0), 0);
        due("12: guard, ahead", x.by(2, 0, 9, 0), 0);
        due("12: guard, at", x.by(2, 0, 10, 0), 1);
        due("12: guard, no house", x.by(2, 1, 11, 0), 0);
        due("12: KEPT OFF with ring 3", x.by(3, 2, 0, 1), 1);
        due("12: KEPT OFF with ring 3 of 0", x.by(3, 0, 0, 1), 3);
        due("12: KEPT OFF, house stays", x.by(6, 0, 0, 1), 0);
        due("12: KEPT OFF, 0 at least", x.by(2, 0, 12, 1), 0);
        x.start(-1);
        due("12: since, without START", x.by(5, 0, 200, 0), 0);
        due("12: guard, without START", x.by(2, 0, 200, 0), 0);
    }

    private static void dueSum(String sum, long want) {
        GuardedStreets x = new GuardedStreets();
        x.street(7, 3, false);
        due("12: LAW of " + sum, law(x, "steal " + sum), 0);
        due("12: " + sum, x.by(0, 0, 0, 0), want);
    }

    private static void byArithmetic() {
        dueSum("2+3*4", 14);
        dueSum("20-3-4", 13);
        dueSum("100/7/2", 7);
        dueSum("7/2*2", 6);
        dueSum("2*7/2", 7);
        dueSum("5/0", 0);
        dueSum("9+5/0", 9);
        dueSum("0-7/2+10", 7);
        dueSum("10+1*7/2-1*7/2", 10);
        dueSum("10+wish/2-cars/2*2", 5);
        dueSum("1-2", 0);
        dueSum("99999", 99999);
        dueSum("99999+1", 99999);
        dueSum("00012", 12);
        dueSum("2 * cars - 3 * wish", 5);
        dueSum("2*cars*0-3*wish/2+10", 6);
        // -9 / 2 is -4, towards 0.
        dueSum("0/1-9/1/2+10", 6);
        // 32768 to the 4th is 2 to the 60th; times 16 it goes round to 0.
        dueSum("32768*32768*32768*32768*16+5", 5);
        dueSum("32768*32768*32768*32768*8/32768/32768/32768/32768+10", 2);
        dueSum("32768*32768*32768*32768*8-1", 99999);
        dueSum("32768*32768*32768*32768*8", 0);
    }

    private static void dueTest(String test, boolean want) {
        GuardedStreets x = new GuardedStreets();
        x.street(7, 3, false);
        due("12: LAW of " + test, law(x, "steal 1 if " + test), 0);
        due("12: " + test, x.by(0, 0, 0, 0), want ? 1 : 0);
    }

    private static void byTests() {
        dueTest("1<2", true);
        dueTest("2<2", false);
        dueTest("2<=2", true);
        dueTest("3<=2", false);
        dueTest("2=2", true);
        dueTest("2=3", false);
        dueTest("2>=2", true);
        dueTest("1>=2", false);
        dueTest("2>1", true);
        dueTest("2>2", false);
        dueTest("0-5<1", true);
        dueTest("cars+1=2*4", true);
        dueTest("not 1=1", false);
        dueTest("not not 1=1", true);
        dueTest("not 1=2 and 1=1", true);
        dueTest("not [1=1 and 1=2]", true);
        dueTest("not 1=1 and 1=2", false);
        dueTest("not 1=1 or 1=1", true);
        dueTest("1=1 or 1=2 and 1=2", true);
        dueTest("[1=1 or 1=2] and 1=2", false);
        dueTest("1=2 and 1=2 or 1=1", true);
        dueTest("1=2 or 1=2 or 1=1", true);
        dueTest("1=1 and 1=1 and 1=2", false);
        dueTest("not [1=2 or [1=1 and not 1=2]]", false);
    }

    private static void byClauses() {
        GuardedStreets x = Made.fiveStreets();
        law(x, "steal 1 if street = 0; steal 2 if street = 1; steal 3 if street < 3; steal 4");
        int[] stolen = {1, 2, 3, 4, 4};
        for (int s = 0; s < 5; s++) {
            due("12: the first CLAUSE that holds, " + s, x.by(0, s, 0, 0), stolen[s]);
        }
        law(x, "steal 4; steal 1 if street = 0");
        due("12: one without a TEST holds", x.by(1, 0, 0, 0), 4);
        law(x, "steal 5 if 1 = 2");
        int[] withoutAny = {0, 0, 0, 1000, 0};
        for (int what = 0; what < 5; what++) {
            due("12: without, what " + what, x.by(2, 0, 0, what), withoutAny[what]);
        }
        law(x, "moves 1001; told 1001; steal 5000");
        due("12: MOVES held", x.by(3, 0, 0, 2), 1000);
        due("12: TOLD held", x.by(3, 0, 0, 3), 1000);
        law(x, "moves 0-1; told 0-1; steal 5000");
        due("12: MOVES held to 0", x.by(4, 0, 0, 2), 0);
        due("12: TOLD held to 0", x.by(4, 0, 0, 3), 0);
        due("12: EXPECTED of none told", x.by(4, 0, 0, 4), 0);
        law(x, "told 333; steal 10");
        due("12: EXPECTED downwards", x.by(5, 0, 0, 4), 3);
        law(x, "told 500 if guard = 1; told 1 if ring = 3; moves 7 if ring = 3");
        due("12: TOLD by the RING as it is", x.by(6, 0, 0, 3), 1000);
        due("12: MOVES by the RING as it is", x.by(6, 0, 0, 2), 0);
    }

    private static void byNeighbours() {
        GuardedStreets x = Made.fiveStreets();
        x.start(0);
        x.street(1, 1, true);
        x.beside(0, 5, true);
        x.beside(0, 3, true);
        x.beside(0, 4, true);
        // 1000 kept off at 0, 333 thousandths of them: 333; 1, 3 and 4 are BESIDE it without a MAN.
        law(x, "steal 1000 if ring = 3; moves 333 if street = 0; told 1000");
        for (int s = 1; s < 5; s++) {
            due("12: EXPECTED of " + s, x.by(0, s, 0, 4), s == 2 ? 0 : 111);
        }
        due("12: nothing comes where a MAN stands", x.by(0, 5, 0, 4), 0);
        due("12: nothing goes away from what is stolen", x.by(0, 0, 0, 4), 0);
        x.beside(0, 2, true);
        due("12: like parts, downwards", x.by(0, 4, 0, 4), 83);
        x.start(1);
        due("12: to the other house, too, ahead of START", x.by(0, 5, 0, 4), 66);
        law(x, "steal 1000 if ring = 3; moves 999; told 500");
        due("12: from all that are BESIDE", x.by(1, 1, 0, 4), (199 + 499) / 2);
    }

    private static void share() {
        GuardedStreets x = Made.fiveStreets();
        Made.book(x, 3, 10, 0, 4, 0, 9);
        Made.book(x, 4, 11, 0, 6);
        Made.book(x, 4, 11, 1, 50);
        due("13: together", x.share(3, 0, 10, 12, 0), 19);
        due("13: how many", x.share(3, 0, 10, 12, 1), 4);
        due("13: one WEEK", x.share(3, 0, 11, 11, 0), 6);
        due("13: one WEEK, how many", x.share(3, 0, 11, 11, 1), 2);
        due("13: another DEED", x.share(3, 1, 0, 259, 0), 50);
        due("13: another DEED, how many", x.share(3, 1, 0, 259, 1), 1);
        due("13: another RING", x.share(0, 0, 0, 259, 1), 0);
        due("13: nothing together", x.share(0, 0, 0, 259, 0), 0);
        due("13: from above to", x.share(3, 0, 12, 11, 0), -1);
        due("13: RING 4", x.share(4, 0, 0, 0, 0), -1);
        due("13: RING -1", x.share(-1, 0, 0, 0, 0), -1);
        due("13: DEED 4", x.share(3, 4, 0, 0, 0), -1);
        due("13: DEED -1", x.share(3, -1, 0, 0, 0), -1);
        due("13: from -1", x.share(3, 0, -1, 0, 0), -1);
        due("13: to 260", x.share(3, 0, 0, 260, 0), -1);
        due("13: part 2", x.share(3, 0, 0, 1, 2), -1);
        due("13: part -1", x.share(3, 0, 0, 1, -1), -1);
        due("13: wild", x.share(LEAST, MOST, LEAST, MOST, MOST), -1);
    }

    private static void dueDiffer(GuardedStreets x, String call, int a, int b, int week, int n, long[] parts) {
        for (int part = 0; part < 3; part++) {
            due("14: " + call + ", part " + part, x.differ(a, b, 0, week, n, part), parts[part]);
        }
    }

    private static void differ() {
        GuardedStreets x = Made.fiveStreets();
        Made.book(x, 0, 10, 0, 4, 6, 1, 2);
        Made.book(x, 3, 10, 0, 1, 2, 2, 4);
        Made.book(x, 4, 10, 0, 1, -1, 3, -1);
        // (3/2 - 10/2) - (9/3 - 4/3) = -21/6 - 5/3 = -31/6
        dueDiffer(x, "over two WEEKS", 0, 3, 12, 2, new long[] {-31, 6, -5167});
        dueDiffer(x, "the other way round", 3, 0, 12, 2, new long[] {31, 6, 5166});
        dueDiffer(x, "over one WEEK", 0, 3, 12, 1, new long[] {-11, 2, -5500});
        dueDiffer(x, "none ahead", 0, 3, 10, 1, new long[] {0, 0, -1000000000});
        dueDiffer(x, "none of a RING", 0, 1, 12, 1, new long[] {0, 0, -1000000000});
        dueDiffer(x, "like RINGS", 3, 3, 12, 1, new long[] {-2000000000, -2000000000, -2000000000});
        due("14: n 0", x.differ(0, 3, 0, 12, 0, 0), -2000000000);
        due("14: n 13", x.differ(0, 3, 0, 12, 13, 0), -2000000000);
        due("14: n 12", x.differ(0, 3, 0, 12, 12, 2), -5167);
        due("14: RING 4", x.differ(0, 4, 0, 12, 1, 0), -2000000000);
        due("14: RING -1", x.differ(-1, 3, 0, 12, 1, 0), -2000000000);
        due("14: DEED 4", x.differ(0, 3, 4, 12, 1, 0), -2000000000);
        due("14: DEED 1 has none", x.differ(0, 3, 1, 12, 1, 2), -1000000000);
        due("14: WEEK -1", x.differ(0, 3, 0, -1, 1, 0), -2000000000);
        due("14: WEEK 260", x.differ(0, 3, 0, 260, 1, 0), -2000000000);
        due("14: part 3", x.differ(0, 3, 0, 12, 1, 3), -2000000000);
        due("14: part -1", x.differ(0, 3, 0, 12, 1, -1), -2000000000);
        due("14: wild", x.differ(LEAST, MOST, LEAST, MOST, LEAST, MOST), -2000000000);
        Made.book(x, 0, 20, 0, 3, 3);
        Made.book(x, 3, 20, 0, 8, 8);
        dueDiffer(x, "no difference", 0, 3, 21, 1, new long[] {0, 1, 0});
    }

    private static void differAtTheEnds() {
        GuardedStreets x = Made.fiveStreets();
        for (int week = 0; week < 4; week++) {
            x.book(0, week, 0, week);
            x.book(3, week, 0, 0);
            x.book(0, 259 - week, 0, 2 * week);
            x.book(3, 259 - week, 0, 0);
        }
        due("14: w - n 0", x.differ(0, 3, 0, 2, 2, 2), 2000);
        due("14: w - n below 0", x.differ(0, 3, 0, 1, 2, 2), -1000000000);
        due("14: w 0", x.differ(0, 3, 0, 0, 1, 2), -1000000000);
        due("14: w + n - 1 259", x.differ(0, 3, 0, 258, 2, 2), -4000);
        due("14: w + n - 1 above 259", x.differ(0, 3, 0, 259, 2, 2), -1000000000);
        due("14: w + n - 1 above 259, below", x.differ(0, 3, 0, 259, 2, 1), 0);
        due("14: w 259", x.differ(0, 3, 0, 259, 1, 2), -2000);
    }

    private static void alike() {
        GuardedStreets x = Made.fiveStreets();
        // Differences of 0 from WEEK to WEEK: 2, 3, -6, none, none, 1, -1, 0.
        Made.book(x, 0, 0, 0, 1, 3, 6, 0, -1, 4, 5, 4, 4);
        Made.book(x, 3, 0, 0, 7, 7, 7, 7, 7, 7, 7, 7, 7);
        due("15: without START", x.alike(0, 3, 0, 1, 0), -2);
        x.start(8);
        due("15: how many", x.alike(0, 3, 0, 1, 0), 5);
        due("15: not above", x.alike(0, 3, 0, 1, 1), 2);
        due("15: of START itself none", x.alike(0, 3, 0, 1, 1), 2);
        x.start(6);
        due("15: how many ahead of 6", x.alike(0, 3, 0, 1, 0), 3);
        due("15: not above ahead of 6", x.alike(0, 3, 0, 1, 1), 1);
        x.start(7);
        due("15: at START - n, how many", x.alike(0, 3, 0, 1, 0), 4);
        due("15: at START - n, not above", x.alike(0, 3, 0, 1, 1), 1);
        // Over two WEEKS it is -1/2 at 7, and from 2 to 5: 1, -9/2, 1, 9/2.
        due("15: over two WEEKS", x.alike(0, 3, 0, 2, 0), 4);
        due("15: over two WEEKS, not above", x.alike(0, 3, 0, 2, 1), 1);
        x.start(4);
        due("15: none at START", x.alike(0, 3, 0, 1, 0), -2);
        x.start(1);
        due("15: none may be asked", x.alike(0, 3, 0, 1, 0), 0);
        x.start(8);
        x.book(0, 3, 0, 6);
        due("15: one that is equal", x.alike(0, 3, 0, 1, 1), 2);
        due("15: like RINGS", x.alike(0, 0, 0, 1, 0), -1);
        due("15: RING 4", x.alike(0, 4, 0, 1, 0), -1);
        due("15: DEED 4", x.alike(0, 3, 4, 1, 0), -1);
        due("15: n 0", x.alike(0, 3, 0, 0, 0), -1);
        due("15: n 13", x.alike(0, 3, 0, 13, 0), -1);
        due("15: what 2", x.alike(0, 3, 0, 1, 2), -1);
        due("15: what -1", x.alike(0, 3, 0, 1, -1), -1);
        due("15: wild", x.alike(LEAST, MOST, LEAST, MOST, LEAST), -1);
    }

    private static void off() {
        GuardedStreets x = Made.atThree();
        due("16: DIFFER", x.differ(0, 3, 0, 3, 1, 2), -2334);
        due("16: OFF", x.off(1, 0), 2334);
        due("16: OFF over 2", x.off(2, 0), 2 * 2334);
        due("16: DOOR", x.off(1, 1), 2 * 1666);
        due("16: DOOR over 3", x.off(3, 1), 2 * 3 * 1666);
        due("16: over 4, START - 4 is no WEEK", x.off(4, 0), -1000000000);
        due("16: n 0", x.off(0, 0), -2000000000);
        due("16: n 13", x.off(13, 0), -2000000000);
        due("16: what 2", x.off(1, 2), -2000000000);
        due("16: what -1", x.off(1, -1), -2000000000);
        due("16: wild", x.off(LEAST, MOST), -2000000000);
        x.book(0, 3, 0, 9);
        due("16: OFF below 0", x.off(1, 0), -3666);
        x.book(1, 3, 0, -1);
        x.book(6, 3, 0, -1);
        due("16: no DOOR", x.off(1, 1), -1000000000);
        x.start(-1);
        due("16: no START", x.off(1, 0), -1000000000);
    }

    private static void thin() {
        GuardedStreets x = Made.atThree();
        due("17: RING 1", x.thin(1, 1), 1167);
        due("17: RINGS 1 to 2", x.thin(1, 2), 778);
        due("17: RINGS 1 to 3", x.thin(1, 3), 389);
        due("17: over 2, a WEEK", x.thin(2, 2), 778);
        due("17: RING 0", x.thin(1, 0), -1);
        due("17: RING 4", x.thin(1, 4), -1);
        due("17: n 0", x.thin(0, 1), -1);
        due("17: n 13", x.thin(13, 1), -1);
        due("17: wild", x.thin(MOST, LEAST), -1);
        due("17: no OFF", x.thin(4, 1), -2);
        x.book(0, 3, 0, 9);
        due("17: OFF below 0", x.thin(1, 1), 0);
        x.book(0, 3, 0, 3);
        x.beside(0, 1, false);
        x.beside(0, 6, false);
        due("17: no such STREETS", x.thin(1, 1), -2);
        due("17: none of RING 2 either", x.thin(1, 2), -2);
        due("17: of RING 3", x.thin(1, 3) > 0, true);
        x.start(-1);
        due("17: no START", x.thin(1, 3), -2);
    }

    private static void cars() {
        GuardedStreets x = Made.fiveStreets();
        Made.book(x, 3, 5, 0, 4, 6, 8, 1);
        Made.book(x, 4, 5, 0, 2);
        Made.book(x, 4, 6, 1, 9);
        x.film(3, 5, 30);
        x.film(3, 6, 0);
        x.film(3, 8, 999);
        x.film(3, 9, 999);
        x.film(4, 5, 40);
        x.film(4, 6, 999);
        due("18: one WEEK of two STREETS", x.cars(3, 5, 5), 85714);
        due("18: without cars, with DEEDS", x.cars(3, 6, 6), -2);
        due("18: both", x.cars(3, 5, 6), 171428);
        due("18: what is not filmed is left out", x.cars(3, 5, 7), 171428);
        due("18: to the last WEEK", x.cars(3, 0, 259), 13 * 1000000 / 1069);
        due("18: a WEEK filmed alone", x.cars(3, 9, 9), -2);
        due("18: another RING", x.cars(0, 0, 259), -2);
        due("18: RING 4", x.cars(4, 0, 1), -1);
        due("18: RING -1", x.cars(-1, 0, 1), -1);
        due("18: from above to", x.cars(3, 6, 5), -1);
        due("18: from -1", x.cars(3, -1, 5), -1);
        due("18: to 260", x.cars(3, 0, 260), -1);
        due("18: wild", x.cars(LEAST, LEAST, MOST), -1);
        GuardedStreets y = new GuardedStreets();
        y.clock(99);
        y.street(1, 1, true);
        for (int week = 0; week < 100; week++) {
            y.book(0, week, 0, 99);
            y.film(0, week, week == 0 ? 1 : 0);
        }
        due("18: more than 31 bits", y.cars(0, 0, 99), 9900000000L);
    }

    private static void edge() {
        GuardedStreets x = Made.fiveStreets();
        x.street(1, 1, true);
        x.start(4);
        Made.book(x, 0, 2, 0, 5, 2, 1, 0);
        Made.book(x, 5, 2, 0, 4, -1, 1, 2);
        // Since: 4 of 4; ahead: 11 of 3.
        due("19: over 2", x.edge(2), 272);
        due("19: over 1", x.edge(1), 500);
        due("19: START - n is no WEEK", x.edge(5), -2);
        due("19: n 0", x.edge(0), -1);
        due("19: n 13", x.edge(13), -1);
        due("19: n least", x.edge(LEAST), -1);
        x.book(0, 3, 0, 0);
        due("19: the latter is 0", x.edge(1), -2);
        x.book(0, 3, 0, -1);
        due("19: none ahead", x.edge(1), -2);
        x.start(6);
        due("19: none since", x.edge(1), -2);
        x.start(-1);
        due("19: no START", x.edge(1), -2);
        Made.book(x, 0, 257, 0, 3, 2, 1);
        x.start(258);
        due("19: to the last WEEK", x.edge(2), 1500000 / 3000);
        x.start(259);
        due("19: behind the last WEEK", x.edge(2), -2);
        due("19: the last WEEK", x.edge(1), 500);
    }

    private static void cost() {
        GuardedStreets x = Made.atThree();
        due("20: upwards", x.cost(1, 7), 3);
        due("20: over 2 the same", x.cost(2, 7), 3);
        due("20: wage 1", x.cost(1, 1), 1);
        due("20: wage 9999", x.cost(1, 9999), 4285);
        due("20: wage 0", x.cost(1, 0), -1);
        due("20: wage 10000", x.cost(1, 10000), -1);
        due("20: n 0", x.cost(0, 1), -1);
        due("20: n 13", x.cost(13, 1), -1);
        due("20: wild", x.cost(MOST, LEAST), -1);
        due("20: no OFF", x.cost(4, 1), -2);
        x.book(5, 3, 0, 3);
        x.book(0, 3, 0, 5);
        due("20: OFF", x.off(1, 0), 0);
        due("20: OFF 0", x.cost(1, 1), -2);
        x.book(0, 3, 0, 9);
        due("20: OFF below 0", x.cost(1, 1), -2);
        x.start(-1);
        due("20: no START", x.cost(1, 1), -2);
    }

    private static void dueWhere(GuardedStreets x, String call, int... want) {
        for (int i = 0; i < 4; i++) {
            due("21: " + call + ", what " + i / 2 + ", part " + i % 2, x.where(i / 2, i % 2), want[i]);
        }
    }

    private static void where() {
        GuardedStreets x = new GuardedStreets();
        dueWhere(x, "no STREETS", 0, 0, 0, 0);
        x.street(10, 3, true);
        dueWhere(x, "no others", 0, 0, 0, 0);
        x.street(4, 3, false);
        dueWhere(x, "two", 6, 1, 0, 1);
        x.street(5, 4, false);
        x.street(3, 9, true);
        // 13/2 - 9/2 and 12/2 - 7/2
        dueWhere(x, "four", 2, 1, 5, 2);
        x.street(900, 900, false);
        // 13/2 - 909/3 and 12/2 - 907/3
        dueWhere(x, "five", -593, 2, -889, 3);
        due("21: what 2", x.where(2, 0), -1000000000);
        due("21: what -1", x.where(-1, 0), -1000000000);
        due("21: part 2", x.where(0, 2), -1000000000);
        due("21: part -1", x.where(0, -1), -1000000000);
        due("21: wild", x.where(LEAST, MOST), -1000000000);
        GuardedStreets y = new GuardedStreets();
        y.street(1, 1, false);
        dueWhere(y, "none of RING 0", 0, 0, 0, 0);
    }

    private static void like() {
        GuardedStreets x = Made.fiveStreets();
        due("22: the least apart", x.like(0), 4);
        x.street(100, 70, false);
        due("22: 60 apart by wish", x.like(0), 5);
        x.street(131, 39, false);
        due("22: of several the least", x.like(0), 5);
        x.street(101, 10, false);
        x.beside(7, 0, true);
        due("22: not of RING 1", x.like(0), 5);
        x.beside(7, 1, true);
        x.beside(7, 0, false);
        due("22: not of RING 2", x.like(0), 5);
        x.street(100, 11, true);
        due("22: not of RING 0", x.like(0), 5);
        due("22: of a later house", x.like(8), 5);
        due("22: no house", x.like(1), -1);
        due("22: no STREET", x.like(9), -1);
        due("22: STREET -1", x.like(-1), -1);
        due("22: wild", x.like(LEAST), -1);
        GuardedStreets y = new GuardedStreets();
        y.street(1, 1, true);
        due("22: none of RING 3", y.like(0), -2);
        GuardedStreets z = new GuardedStreets();
        z.street(5, 5, false);
        z.street(5, 5, true);
        z.street(6, 5, false);
        due("22: STREET 0 is as good", z.like(1), 0);
    }

    private static void deeds() {
        GuardedStreets x = Made.fiveStreets();
        due("23: without START", x.deeds(1, 0), -1);
        x.start(3);
        int[] since = {1, 4, 6, 0};
        for (int deed = 0; deed < 3; deed++) {
            x.book(0, 2, deed, 4);
            x.book(0, 3, deed, since[deed]);
            x.book(3, 2, deed, 5);
            x.book(3, 3, deed, 5);
        }
        due("23: -3001", x.deeds(1, -3001), 0);
        due("23: -3000", x.deeds(1, -3000), 1);
        due("23: -1", x.deeds(1, -1), 1);
        due("23: 0", x.deeds(1, 0), 2);
        due("23: 1999", x.deeds(1, 1999), 2);
        due("23: 2000", x.deeds(1, 2000), 3);
        due("23: DEED 3 has none", x.deeds(1, 1000000), 3);
        due("23: all", x.deeds(1, -1000000), 0);
        due("23: 1000001", x.deeds(1, 1000001), -1);
        due("23: -1000001", x.deeds(1, -1000001), -1);
        due("23: n 0", x.deeds(0, 0), -1);
        due("23: n 13", x.deeds(13, 0), -1);
        due("23: wild", x.deeds(LEAST, MOST), -1);
        due("23: START - n is no WEEK", x.deeds(4, 0), 0);
        x.book(4, 3, 0, 6);
        x.book(4, 2, 0, 5);
        // The DIFFER of DEED 0 is -3 - 1/2.
        due("23: in thousandths", x.deeds(1, -3500), 1);
        due("23: below it", x.deeds(1, -3501), 0);
        x.book(1, 3, 0, 99);
        due("23: another RING", x.deeds(1, -3500), 1);
    }

    private static void miss() {
        GuardedStreets x = Made.fiveStreets();
        x.start(3);
        law(x, "steal 2500; steal 1 if 1 = 1");
        due("24: without BOOKS", x.miss(0, 0, 259), 0);
        Made.book(x, 0, 2, 0, 2, 4, 0);
        Made.book(x, 3, 3, 0, 3);
        Made.book(x, 3, 3, 1, 99);
        due("24: above, without sign", x.miss(0, 2, 2), 500);
        due("24: two STREETS", x.miss(0, 3, 3), 2000);
        due("24: a BOOK of none", x.miss(0, 4, 4), 2500);
        due("24: all", x.miss(0, 0, 259), 5000);
        due("24: from and to count", x.miss(0, 2, 4), 5000);
        due("24: between", x.miss(0, 3, 4), 4500);
        due("24: from above to", x.miss(0, 4, 3), -1);
        due("24: LAW 1", x.miss(1, 0, 1), -1);
        due("24: LAW -1", x.miss(-1, 0, 1), -1);
        due("24: from -1", x.miss(0, -1, 1), -1);
        due("24: to 260", x.miss(0, 0, 260), -1);
        due("24: wild", x.miss(MOST, LEAST, MOST), -1);
        law(x, "steal 3000 if guard = 0; moves 500; told 500");
        // Ahead of START 1500 at 0; since: 0 there, and 3 has no neighbour: 1500.
        due("24: by MEN and what is told of", x.miss(1, 2, 3), 500 + 4000 + 1500);
        x.book(1, 3, 0, 1);
        due("24: by what comes from next door", x.miss(1, 3, 3), 4000 + 1500 + (2250 - 1000));
    }

    private static void best() {
        GuardedStreets x = Made.fiveStreets();
        due("25: no LAWS", x.best(0, 1, 0, 0), -1);
        due("25: no LAWS, as bits", x.best(0, 1, 0, 1), 0);
        due("25: no LAWS, from above to", x.best(1, 0, 0, 0), -2);
        x.book(0, 5, 0, 2);
        law(x, "steal 3000");
        law(x, "steal 2300");
        law(x, "steal 1700");
        law(x, "steal 2399");
        law(x, "steal 1599");
        due("25: of several the least", x.best(0, 9, 0, 0), 1);
        due("25: STILL by 0", x.best(0, 9, 0, 1), 6);
        due("25: STILL by 33", x.best(0, 9, 33, 1), 2 + 4 + 8);
        due("25: STILL by 34", x.best(0, 9, 34, 1), 2 + 4 + 8 + 16);
        due("25: STILL by 32, downwards", x.best(0, 9, 32, 1), 6);
        due("25: STILL by 900", x.best(0, 9, 900, 1), 31);
        due("25: without BOOKS", x.best(6, 9, 0, 1), 31);
        due("25: without BOOKS, the least", x.best(6, 9, 0, 0), 0);
        due("25: p 901", x.best(0, 9, 901, 1), -2);
        due("25: p -1", x.best(0, 9, -1, 1), -2);
        due("25: what 2", x.best(0, 9, 0, 2), -2);
        due("25: what -1", x.best(0, 9, 0, -1), -2);
        due("25: from above to", x.best(9, 0, 0, 0), -2);
        due("25: from -1", x.best(-1, 0, 0, 0), -2);
        due("25: to 260", x.best(0, 260, 0, 0), -2);
        due("25: wild", x.best(LEAST, MOST, LEAST, MOST), -2);
    }

    private static void run() {
        GuardedStreets x = Made.fiveStreets();
        law(x, "steal 1000 * street + 500 if week = 0; steal 2000");
        // From seed 0 the draws are 0, 468, 988, 117 and 498: below 500 are all but that of STREET 2.
        due("26: RING 0", x.run(0, 0, 0, 0, 0), 1);
        due("26: RING 1", x.run(0, 0, 0, 0, 1), 2);
        due("26: RING 2", x.run(0, 0, 0, 0, 2), 2);
        due("26: RING 3", x.run(0, 0, 0, 0, 3), 4 + 5);
        due("26: whole ones", x.run(0, 1, 1, 60, 3), 2 * 2 * 60);
        due("26: 60 WEEKS", x.run(0, 0, 0, 59, 2), 2 + 2 * 59);
        due("26: 61 WEEKS", x.run(0, 0, 0, 60, 2), -1);
        due("26: the last WEEKS", x.run(0, 0, 200, 259, 0), 120);
        due("26: seed -1", x.run(0, -1, 0, 0, 0), -1);
        due("26: seed 2147483647", x.run(0, MOST, 1, 1, 0), 2);
        due("26: from above to", x.run(0, 0, 1, 0, 0), -1);
        due("26: RING 4", x.run(0, 0, 0, 0, 4), -1);
        due("26: RING -1", x.run(0, 0, 0, 0, -1), -1);
        due("26: LAW 1", x.run(1, 0, 0, 0, 0), -1);
        due("26: from -1", x.run(0, 0, -1, 0, 0), -1);
        due("26: to 260", x.run(0, 0, 259, 260, 0), -1);
        due("26: wild", x.run(LEAST, LEAST, LEAST, MOST, MOST), -1);
        GuardedStreets y = new GuardedStreets();
        y.street(0, 0, true);
        law(y, "steal 0");
        law(y, "steal 1");
        law(y, "steal 468");
        law(y, "steal 469");
        due("26: nothing is below 0", y.run(0, 0, 0, 0, 0), 0);
        due("26: 0 is below 1", y.run(1, 0, 0, 0, 0), 1);
        due("26: 468 isn't below 468", y.run(2, 0, 0, 1, 0), 1);
        due("26: 468 is below 469", y.run(3, 0, 0, 1, 0), 2);
    }

    private static void towns() {
        GuardedStreets x = Made.fiveStreets();
        law(x, "steal 4000 if guard = 0; steal 1000");
        due("27: no START", x.towns(0, 0, 1, 1), -2);
        x.start(3);
        due("27: no DIFFER by the BOOKS", x.towns(0, 0, 1, 1), -2);
        Made.book(x, 0, 2, 0, 5, 2);
        Made.book(x, 3, 2, 0, 1, 1);
        due("27: equal to that by the BOOKS", x.towns(0, 0, 1, 60), 60);
        x.book(0, 3, 0, 1);
        due("27: above that", x.towns(0, 0, 1, 60), 0);
        law(x, "steal 4500 if guard = 0; steal 1000");
        due("27: one town", x.towns(1, 0, 1, 1), townsByHand(x, 1, 0, 1, 1));
        Made.book(x, 0, 1, 0, 6, 5, 2, 1);
        Made.book(x, 3, 1, 0, 1, 3, 2, 1);
        law(x, "steal 4700 - 1300 * guard - 90 * week + 77 * street");
        for (int seed = 0; seed < 40; seed++) {
            int k = 1 + seed % 2;
            due("27: towns of seed " + seed, x.towns(2, seed, k, 7), townsByHand(x, 2, seed, k, 7));
        }
        due("27: towns of the greatest seed", x.towns(2, MOST, 2, 60), townsByHand(x, 2, MOST, 2, 60));
        due("27: k 2 has START - k", x.towns(0, 0, 2, 1), 0);
        due("27: START - k below 0", x.towns(0, 0, 4, 1), -2);
        due("27: k 0", x.towns(0, 0, 0, 1), -1);
        due("27: k 13", x.towns(0, 0, 13, 1), -1);
        due("27: n 0", x.towns(0, 0, 1, 0), -1);
        due("27: n 61", x.towns(0, 0, 1, 61), -1);
        due("27: seed -1", x.towns(0, -1, 1, 1), -1);
        due("27: LAW 3", x.towns(3, 0, 1, 1), -1);
        due("27: wild", x.towns(LEAST, LEAST, MOST, MOST), -1);
        Made.book(x, 0, 258, 0, 5, 2);
        Made.book(x, 3, 258, 0, 1, 1);
        x.start(259);
        due("27: the last WEEK", x.towns(0, 7, 1, 3), 3);
        due("27: START + k - 1 above 259", x.towns(0, 7, 2, 3), -2);
    }

    /** TOWNS by the draws themselves, with the five STREETS of towns() and START 3. */
    private static int townsByHand(GuardedStreets g, int law, int seed, int k, int n) {
        long x = seed;
        int notAbove = 0;
        for (int i = 0; i < n; i++) {
            long guarded = 0;
            long others = 0;
            for (int week = 3 - k; week < 3 + k; week++) {
                for (int s = 0; s < 5; s++) {
                    x = (x * 1103515245L + 12345) % 2147483648L;
                    int expected = g.by(law, s, week, 4);
                    long deeds = expected / 1000 + (x / 65536 % 1000 < expected % 1000 ? 1 : 0);
                    guarded += s == 0 ? week < 3 ? -deeds : deeds : 0;
                    others += s > 2 ? week < 3 ? -deeds : deeds : 0;
                }
            }
            long thousandths = Math.floorDiv(1000 * (2 * guarded - others), 2L * k);
            notAbove += thousandths <= g.differ(0, 3, 0, 3, k, 2) ? 1 : 0;
        }
        return notAbove;
    }

    private static void plan() {
        GuardedStreets x = Made.fiveStreets();
        law(x, "steal 1000");
        law(x, "steal 1000 if guard = 0; steal 900 - 100 * street");
        due("28: the most", x.plan(1, 0, 0, 1), 16);
        due("28: two", x.plan(2, 0, 0, 1), 16 + 8);
        due("28: all", x.plan(5, 0, 0, 1), 31);
        due("28: the other way round", x.plan(3, 259, 1, 0), 16 + 8 + 4);
        due("28: more than there are", x.plan(6, 0, 0, 1), -2);
        due("28: ten of five", x.plan(10, 0, 0, 1), -2);
        due("28: m 0", x.plan(0, 0, 0, 1), -1);
        due("28: m 11", x.plan(11, 0, 0, 1), -1);
        due("28: WEEK 260", x.plan(1, 260, 0, 1), -1);
        due("28: WEEK -1", x.plan(1, -1, 0, 1), -1);
        due("28: like LAWS", x.plan(1, 0, 1, 1), -1);
        due("28: LAW 2", x.plan(1, 0, 0, 2), -1);
        due("28: LAW -1", x.plan(1, 0, -1, 1), -1);
        due("28: wild", x.plan(LEAST, MOST, LEAST, MOST), -1);
        law(x, "steal 1000 if house = 0; steal 10");
        due("28: of several the least", x.plan(2, 0, 0, 2), 3);
        law(x, "steal 1000 if guard = 0; moves 1000");
        law(x, "steal 1000 if guard = 0; moves 0");
        // What a MAN at 0 or 2 keeps off goes to 1; a MAN at 1 sends 500 to each; at 3 it goes nowhere.
        due("28: what goes next door", x.plan(1, 0, 3, 4), 1);
        due("28: not to where a MAN stands", x.plan(2, 0, 3, 4), 1 + 4);
        x.start(0);
        due("28: whoever stands there by START", x.plan(1, 3, 3, 4), 1);
        law(x, "steal 1000 * since");
        law(x, "steal 1000 * since + 1 - guard * since * street");
        due("28: since as it is", x.plan(1, 3, 5, 6), 16);
        GuardedStreets y = new GuardedStreets();
        for (int s = 0; s < 12; s++) {
            y.street(s, s, false);
        }
        law(y, "steal 500");
        law(y, "steal 500 if guard = 0; steal 400 - 10 * street");
        due("28: STREETS 0 to 9 alone", y.plan(1, 0, 0, 1), 512);
        due("28: ten of twelve", y.plan(10, 0, 0, 1), 1023);
        due("28: no STREETS", new GuardedStreets().plan(1, 0, 0, 1), -1);
    }

    private static void imageAndBack() {
        GuardedStreets x = new GuardedStreets();
        due("29: where nothing was told yet", x.image(3), 0);
        due("30: never made", x.back(0), -1);
        x.clock(4);
        x.street(5, 6, true);
        x.street(7, 8, false);
        x.beside(0, 1, true);
        x.start(2);
        x.book(0, 3, 1, 9);
        x.film(1, 4, 99);
        due("29: NOW", x.image(0), 4);
        due("29: IMAGE 4", x.image(4), -1);
        due("29: IMAGE -1", x.image(-1), -1);
        due("29: wild", x.image(LEAST), -1);
        x.clock(8);
        x.beside(0, 1, false);
        x.street(9, 9, true);
        x.start(-1);
        x.book(0, 3, 1, 8);
        x.book(2, 8, 1, 8);
        x.film(1, 4, -1);
        law(x, "steal cars");
        Due.feed(x, "steal");
        due("30: back(0)", x.back(0), 4);
        int[] counts = {4, 2, 1, 1, 1, 1, 5};
        for (int what = 0; what < 7; what++) {
            due("30: count(" + what + ")", x.count(what), counts[what]);
        }
        due("30: START", x.start(2), 2);
        due("30: BOOK", x.book(0, 3, 1, 9), 9);
        due("30: FILM", x.film(1, 4, 99), 99);
        due("30: RING", x.ring(1), 1);
        due("30: LAWS stay", x.by(0, 1, 0, 0), 7);
        due("30: a new STREET has no BOOKS", x.street(1, 2, false), 2);
        x.clock(8);
        due("30: none of its own", x.book(2, 8, 1, 3), -1);
        due("30: nor is it BESIDE one", x.ring(2), 3);
        due("30: back(3)", x.back(3), 0);
        due("30: no STREETS", x.count(1), 0);
        due("30: IMAGES stay", x.back(0), 4);
        due("30: again two STREETS", x.count(1), 2);
        x.clock(6);
        due("29: made anew", x.image(0), 6);
        due("30: back(0) anew", x.back(0), 6);
        due("30: IMAGE 4", x.back(4), -1);
        due("30: IMAGE -1", x.back(-1), -1);
        due("30: IMAGE 1", x.back(1), -1);
        due("30: wild", x.back(MOST), -1);
        due("30: nothing happened", x.count(0), 6);
    }

    private static void count() {
        GuardedStreets x = Made.fiveStreets();
        x.book(0, 0, 0, 0);
        x.book(0, 0, 3, 1);
        x.book(1, 0, 1, 1);
        x.film(0, 0, 0);
        law(x, "steal 1");
        law(x, "steal 1");
        Due.feed(x, "steal 1");
        int[] counts = {259, 5, 2, 3, 1, 2, 7};
        for (int what = 0; what < 7; what++) {
            due("31: count(" + what + ")", x.count(what), counts[what]);
        }
        due("31: count(7)", x.count(7), -1);
        due("31: count(-1)", x.count(-1), -1);
        due("31: count(least)", x.count(LEAST), -1);
        due("31: count(most)", x.count(MOST), -1);
    }
}
