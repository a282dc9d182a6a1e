import java.util.ArrayDeque;
import java.util.ArrayList;
import java.util.Deque;
import java.util.HashMap;
import java.util.List;
import java.util.Map;
import java.util.Set;
import java.util.regex.Matcher;
import java.util.regex.Pattern;

/**
 * A LAW read in another way than the class does: by what may stand next and a stack of what is open, and reckoned
 * straight from the signs.
 */
final class TwinLaw {
    private static final Pattern SIGN = Pattern.compile("[a-z]+|[0-9]+|<=|>=|[\\x00-\\x1f\\x21-\\xff]");
    private static final Set<String> WORDS =
            Set.of("cars", "wish", "guard", "ring", "week", "since", "house", "street");
    private static final Set<String> SORTS = Set.of("steal", "moves", "told");
    private static final Set<String> COMPARES = Set.of("<", "<=", "=", ">=", ">");
    private static final Set<String> RECKONS = Set.of("+", "-", "*", "/");

    /** 0, or the FAULT. */
    final int fault;
    private final List<String> signs = new ArrayList<>();
    private final List<Integer> places = new ArrayList<>();
    private Map<String, Long> words = new HashMap<>();
    private int at = 0;

    TwinLaw(String text) {
        Matcher matcher = SIGN.matcher(text);
        while (matcher.find()) {
            signs.add(matcher.group());
            places.add(matcher.start());
        }
        places.add(text.length());
        fault = findFault();
    }

    private enum Next { CLAUSE, VALUE, FACT, BEHIND_VALUE, BEHIND_FACT }

    private int findFault() {
        Next next = Next.CLAUSE;
        boolean isInTest = false;
        boolean isCompared = false;
        int clauses = 0;
        int weight = 0;
        Deque<String> open = new ArrayDeque<>();
        for (int i = 0; i <= signs.size(); i++) {
            String sign = i < signs.size() ? signs.get(i) : "";
            int place = 1 + 8 * places.get(i);
            boolean isValue = WORDS.contains(sign) || sign.matches("[0-9]+");
            if (next == Next.CLAUSE) {
                if (!SORTS.contains(sign)) {
                    return place;
                }
                if (++clauses > 12) {
                    return place + 4;
                }
                isInTest = false;
                next = Next.VALUE;
            } else if (next == Next.FACT && (sign.equals("[") || sign.equals("not"))) {
                if (open.size() == 10) {
                    return place + 2;
                }
                open.push(sign);
            } else if (next == Next.FACT || next == Next.VALUE) {
                if (!isValue) {
                    return place;
                }
                if (sign.matches("[0-9]{6,}")) {
                    return place + 1;
                }
                if (++weight > 60) {
                    return place + 3;
                }
                isCompared = next == Next.VALUE && isCompared;
                next = Next.BEHIND_VALUE;
            } else if (next == Next.BEHIND_VALUE && RECKONS.contains(sign)) {
                // Behind the first VALUE of a FACT neither not nor [ may stand any more.
                next = Next.VALUE;
            } else if (next == Next.BEHIND_VALUE && isInTest && !isCompared) {
                if (!COMPARES.contains(sign)) {
                    return place;
                }
                if (++weight > 60) {
                    return place + 3;
                }
                isCompared = true;
                next = Next.VALUE;
            } else if (!isInTest && sign.equals("if")) {
                isInTest = true;
                isCompared = false;
                next = Next.FACT;
            } else if (sign.equals("") && !open.contains("[")) {
                return 0;
            } else if (sign.equals(";") && !open.contains("[")) {
                open.clear();
                isCompared = false;
                next = Next.CLAUSE;
            } else if (isInTest && (sign.equals("and") || sign.equals("or"))) {
                endNots(open);
                isCompared = false;
                next = Next.FACT;
            } else if (isInTest && sign.equals("]") && open.contains("[")) {
                endNots(open);
                open.pop();
                next = Next.BEHIND_FACT;
            } else {
                return place;
            }
        }
        return 0;
    }

    private static void endNots(Deque<String> open) {
        while (!open.isEmpty() && open.peek().equals("not")) {
            open.pop();
        }
    }

    /** The SUM of the first CLAUSE of a sort that holds, or null. */
    Long sum(String sort, Map<String, Long> worths) {
        words = worths;
        at = 0;
        while (at < signs.size()) {
            String read = signs.get(at);
            at++;
            long sum = sum();
            boolean isHolding = true;
            if (isAt("if")) {
                at++;
                isHolding = test();
            }
            at++;
            if (isHolding && read.equals(sort)) {
                return sum;
            }
        }
        return null;
    }

    private boolean isAt(String sign) {
        return at < signs.size() && signs.get(at).equals(sign);
    }

    private boolean test() {
        boolean is = part();
        while (isAt("or")) {
            at++;
            boolean next = part();
            is = is || next;
        }
        return is;
    }

    private boolean part() {
        boolean is = fact();
        while (isAt("and")) {
            at++;
            boolean next = fact();
            is = is && next;
        }
        return is;
    }

    private boolean fact() {
        if (isAt("not")) {
            at++;
            return !fact();
        }
        if (isAt("[")) {
            at++;
            boolean is = test();
            at++;
            return is;
        }
        long a = sum();
        String sign = signs.get(at);
        at++;
        int order = Long.compare(a, sum());
        return order < 0 ? sign.startsWith("<") : order > 0 ? sign.startsWith(">") : sign.contains("=");
    }

    private long sum() {
        long sum = term();
        while (isAt("+") || isAt("-")) {
            at++;
            sum = signs.get(at - 1).equals("+") ? sum + term() : sum - term();
        }
        return sum;
    }

    private long term() {
        long term = value();
        while (isAt("*") || isAt("/")) {
            boolean isTimes = isAt("*");
            at++;
            long value = value();
            term = isTimes ? term * value : value == 0 ? 0 : term / value;
        }
        return term;
    }

    private long value() {
        String sign = signs.get(at);
        at++;
        return words.containsKey(sign) ? words.get(sign) : Long.parseLong(sign);
    }
}
