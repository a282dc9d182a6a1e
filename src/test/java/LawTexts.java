import java.util.Random;

/** Draws texts of LAWS, right ones and such as mostly have a FAULT. */
final class LawTexts {
    private static final String[] WORDS = {"cars", "wish", "guard", "ring", "week", "since", "house", "street"};
    private static final String[] SIGNS = {"<", "<=", "=", ">=", ">"};
    private static final String[] STRAYS = {"[", "]", "not ", ";", "if ", "and ", "or ", "123456", "steal", "<", "=", " ",
        "?", "+", "/", "foo", "1", "cars", "told ", "A", "\u00e9", "\u0000", "\t"};

    private final Random random;

    LawTexts(Random random) {
        this.random = random;
    }

    String oftenWrong() {
        String text = right();
        for (int i = random.nextInt(4); i > 0; i--) {
            int at = random.nextInt(text.length() + 1);
            String stray = STRAYS[random.nextInt(STRAYS.length)];
            int to = Math.min(text.length(), at + (random.nextBoolean() ? random.nextInt(4) : 0));
            text = text.substring(0, at) + stray + text.substring(to);
        }
        return text;
    }

    /** Too long, too deep or too heavy now and then. */
    String right() {
        String[] sorts = {"steal ", "moves ", "told "};
        StringBuilder text = new StringBuilder();
        int clauses = random.nextInt(12) == 0 ? 1 + random.nextInt(14) : 1 + random.nextInt(5);
        for (int i = 0; i < clauses; i++) {
            text.append(i == 0 ? "" : ";" + blanks());
            int sort = random.nextInt(2) == 0 ? 0 : random.nextInt(3);
            text.append(sorts[sort]).append(blanks());
            text.append(sort == 0 ? stealing() : random.nextInt(3) == 0 ? sum(2) : 1 + random.nextInt(1100) + "");
            if (random.nextInt(5) != 0) {
                text.append(" if ").append(test(random.nextInt(8) == 0 ? 11 : 2));
            }
        }
        return text.append(blanks()).toString();
    }

    private String stealing() {
        switch (random.nextInt(3)) {
            case 0: return sum(3);
            case 1: return 1 + random.nextInt(9) + "000 - " + random.nextInt(5) + "00*" + word();
            default: return random.nextInt(6000) + "";
        }
    }

    private String blanks() {
        return random.nextInt(3) == 0 ? "  ".substring(random.nextInt(2)) : "";
    }

    private String word() {
        return WORDS[random.nextInt(WORDS.length)];
    }

    private String sum(int most) {
        StringBuilder sum = new StringBuilder(value());
        int terms = random.nextInt(25) == 0 ? random.nextInt(30) : random.nextInt(most);
        for (int i = 0; i < terms; i++) {
            sum.append(blanks()).append("+-*/".charAt(random.nextInt(4))).append(blanks()).append(value());
        }
        return sum.toString();
    }

    private String value() {
        switch (random.nextInt(6)) {
            case 0: return random.nextInt(100000) + "";
            case 1: return random.nextInt(10) + "";
            case 2: return random.nextInt(1000) + "";
            default: return word();
        }
    }

    private String test(int deep) {
        switch (random.nextInt(deep > 2 ? 5 : 8)) {
            case 0: return deep == 0 ? fact() : test(deep - 1) + " and " + test(deep > 2 ? 0 : deep - 1);
            case 1: return deep == 0 ? fact() : test(deep > 2 ? 0 : deep - 1) + " or " + test(deep - 1);
            case 2: return deep == 0 ? fact() : "not " + test(deep - 1);
            case 3:
            case 4: return deep == 0 ? fact() : "[" + blanks() + test(deep - 1) + "]";
            default: return fact();
        }
    }

    private String fact() {
        if (random.nextInt(3) == 0) {
            return "guard = " + random.nextInt(2);
        }
        return sum(2) + blanks() + SIGNS[random.nextInt(SIGNS.length)] + blanks() + sum(2);
    }
}
