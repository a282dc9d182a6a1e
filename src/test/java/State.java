/** All of an object that calls can tell, as a text: what is taken out to be read is put back at once. */
final class State {
    private State() {
    }

    /** Of the first two WEEKS, which is enough for what Made makes. */
    static String of(GuardedStreets x) {
        StringBuilder told = new StringBuilder();
        for (int what = 0; what < 7; what++) {
            told.append(x.count(what)).append(' ');
        }
        int start = x.start(GuardedStreets.NONE);
        x.start(start);
        told.append("start ").append(start);
        for (int s = 0; s < x.count(1); s++) {
            told.append(" street ").append(x.ring(s));
            for (int week = 0; week < 2 && week <= x.count(0); week++) {
                readWeek(x, s, week, told);
            }
            for (int other = 0; other < s; other++) {
                boolean isBeside = !x.beside(s, other, true);
                if (!isBeside) {
                    x.beside(s, other, false);
                }
                told.append(' ').append(isBeside);
            }
        }
        for (int law = 0; law < x.count(5); law++) {
            told.append(" law ").append(x.by(law, 0, 0, 0)).append(' ').append(x.by(law, 0, 0, 3));
        }
        return told.toString();
    }

    private static void readWeek(GuardedStreets x, int street, int week, StringBuilder told) {
        for (int deed = 0; deed < 4; deed++) {
            int n = x.book(street, week, deed, GuardedStreets.NONE);
            x.book(street, week, deed, n);
            told.append(' ').append(n);
        }
        int cars = x.film(street, week, GuardedStreets.NONE);
        x.film(street, week, cars);
        told.append(" film ").append(cars);
    }
}
