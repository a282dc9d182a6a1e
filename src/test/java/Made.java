/** Objects that several tests begin with. */
final class Made {
    private Made() {
    }

    /** STREET 0 with a house, 1 BESIDE it, 2 BESIDE 1, 3 and 4 apart; NOW is the last WEEK. */
    static GuardedStreets fiveStreets() {
        GuardedStreets x = new GuardedStreets();
        x.clock(259);
        x.street(100, 10, true);
        x.street(50, 20, false);
        x.street(60, 30, false);
        x.street(40, 5, false);
        x.street(41, 7, false);
        x.beside(0, 1, true);
        x.beside(1, 2, true);
        return x;
    }

    /** DIFFER of 0 and 3 at START (3) over 1: -7/3; of 1 and 3: 5/3, with two STREETS of RING 1 and three of 3. */
    static GuardedStreets atThree() {
        GuardedStreets x = fiveStreets();
        x.street(1, 1, false);
        x.street(9, 9, false);
        x.beside(0, 6, true);
        x.start(3);
        book(x, 0, 2, 0, 5, 3);
        book(x, 1, 2, 0, 1, 3);
        book(x, 6, 2, 0, 0, 2);
        book(x, 3, 2, 0, 1, 1);
        book(x, 4, 2, 0, 0, 0);
        book(x, 5, 2, 0, 3, 4);
        return x;
    }

    /** A little of everything in WEEKS 0 and 1, with a LAW and seven bytes on the TAPE. */
    static GuardedStreets busy() {
        GuardedStreets x = new GuardedStreets();
        x.clock(1);
        x.street(5, 6, true);
        x.street(7, 8, false);
        x.beside(0, 1, true);
        x.start(1);
        x.book(0, 0, 0, 9);
        x.book(0, 1, 3, 0);
        x.book(1, 1, 0, 99);
        x.film(0, 1, 0);
        x.film(1, 0, 999);
        Due.law(x, "steal 17; told 500");
        Due.feed(x, "steal 1");
        return x;
    }

    /** 24 STREETS without houses, with as many cars as their number; NOW is 0. */
    static GuardedStreets allStreets() {
        GuardedStreets x = new GuardedStreets();
        for (int s = 0; s < 24; s++) {
            x.street(s, 0, false);
        }
        return x;
    }

    /** One STREET without a house, with 7 cars and a wish of 3. */
    static GuardedStreets oneStreet() {
        GuardedStreets x = new GuardedStreets();
        x.street(7, 3, false);
        return x;
    }

    /** BOOKS of one DEED in a STREET, from a WEEK on. */
    static void book(GuardedStreets x, int street, int from, int deed, int... numbers) {
        for (int i = 0; i < numbers.length; i++) {
            x.book(street, from + i, deed, numbers[i]);
        }
    }
}
