import java.util.ArrayList;
import java.util.HashMap;
import java.util.HashSet;
import java.util.LinkedHashSet;
import java.util.List;
import java.util.Map;
import java.util.Random;
import java.util.Set;

/** Promises 13, 14, 19, 20 against the document's grammar itself, worked off as stacks of its symbols. */
public final class ActOracleTest {
    private static final Clerk c = new Clerk();
    private static final Random random = new Random(3);
    private static final Map<String, String[]> GRAMMAR = new HashMap<>();
    private static final List<String> RESERVED = List.of("or", "and", "not", "unless", "above", "below", "is");
    private static final List<String> PLAIN = List.of("jury", "land", "kin", "challenge", "hundred", "bill", "void", "stand");
    private static final Map<String, int[]> BOUNDS = Map.of("jury", new int[] {1, 12}, "kin", new int[] {0, 4},
            "challenge", new int[] {0, 12}, "hundred", new int[] {0, 12}, "bill", new int[] {0, 23});

    public static void main(String[] args) {
        writeGrammar();
        for (int round = 0; round < 20000; round++) {
            compareFault(round);
        }
        for (int round = 0; round < 4000; round++) {
            compareCondition();
        }
        c.close();
    }

    /** W is any word, V one that is not reserved, N a number; a capital name is worked off, the rest are texts. */
    private static void writeGrammar() {
        GRAMMAR.put("TEXT", new String[] {"", "CLAUSE ; TEXT"});
        GRAMMAR.put("CLAUSE", new String[] {"deed W = COND EXCEPT", "words W W MORE", "death W", "fine W N", "clergy W",
            "refuse W", "keep W", "mend W", "jury N", "land N", "kin N", "challenge N", "hundred N", "bill N", "void",
            "stand", "strike N", "strike N W"});
        GRAMMAR.put("MORE", new String[] {"", "W MORE"});
        GRAMMAR.put("EXCEPT", new String[] {"", "unless COND"});
        GRAMMAR.put("COND", new String[] {"ALL ORS"});
        GRAMMAR.put("ORS", new String[] {"", "or ALL ORS"});
        GRAMMAR.put("ALL", new String[] {"ONE ANDS"});
        GRAMMAR.put("ANDS", new String[] {"", "and ONE ANDS"});
        GRAMMAR.put("ONE", new String[] {"not ONE", "( COND )", "SUM OTHER"});
        GRAMMAR.put("OTHER", new String[] {"", "above SUM", "below SUM", "is SUM"});
        GRAMMAR.put("SUM", new String[] {"TERM PLUS"});
        GRAMMAR.put("PLUS", new String[] {"", "+ TERM PLUS"});
        GRAMMAR.put("TERM", new String[] {"V", "N"});
    }

    // ---- faults

    private static void compareFault(int round) {
        List<String> tokens = randomText();
        for (int i = random.nextInt(3); i > 0 && !tokens.isEmpty(); i--) {
            spoil(tokens);
        }
        StringBuilder text = new StringBuilder();
        List<Integer> places = new ArrayList<>();
        for (String token : tokens) {
            boolean joins = text.length() > 0 && sameKind(text.charAt(text.length() - 1), token.charAt(0));
            if (joins || random.nextInt(4) > 0) {
                text.append(random.nextInt(5) == 0 ? "\n " : " ");
            }
            places.add(text.length());
            text.append(token);
        }
        if (random.nextInt(3) == 0) {
            text.append(" ");
        }
        if (text.length() > 1200) {
            return;
        }
        int[] due = dueFault(tokens, places, text.length());
        AssizeRide x = new AssizeRide();
        x.act(0, 63);
        x.act(0, 63);
        c.due("act of round " + round + ": " + text, Clerk.say(x, text.toString()).act(0, 63), due[0] == 0 ? 2 : -1);
        c.due("fault of round " + round + ": " + text, x.fault(0), due[0]);
        c.due("place of round " + round + ": " + text, x.fault(1), due[1]);
    }

    private static boolean sameKind(char a, char b) {
        return a >= 'a' && a <= 'z' && b >= 'a' && b <= 'z' || a >= '0' && a <= '9' && b >= '0' && b <= '9';
    }

    private static int[] dueFault(List<String> tokens, List<Integer> places, int length) {
        int wrong = firstWrong(tokens);
        int[] other = firstOther(tokens, wrong < 0 ? tokens.size() : wrong);
        if (other != null) {
            return new int[] {other[1], places.get(other[0])};
        }
        if (wrong < 0) {
            return new int[] {0, -1};
        }
        return new int[] {1, wrong == tokens.size() ? length : places.get(wrong)};
    }

    /** The first token with which no text goes on; the number of tokens at the end; -1 without. */
    private static int firstWrong(List<String> tokens) {
        Set<String> stacks = expand(Set.of("TEXT"));
        for (int i = 0; i < tokens.size(); i++) {
            Set<String> next = new LinkedHashSet<>();
            for (String stack : stacks) {
                int blank = stack.indexOf(' ');
                String top = blank < 0 ? stack : stack.substring(0, blank);
                if (matches(top, tokens.get(i))) {
                    next.add(blank < 0 ? "" : stack.substring(blank + 1));
                }
            }
            if (next.isEmpty()) {
                return i;
            }
            stacks = expand(next);
        }
        return stacks.contains("") ? -1 : tokens.size();
    }

    private static Set<String> expand(Set<String> stacks) {
        Set<String> done = new HashSet<>();
        List<String> rest = new ArrayList<>(stacks);
        while (!rest.isEmpty()) {
            String stack = rest.remove(rest.size() - 1);
            int blank = stack.indexOf(' ');
            String top = blank < 0 ? stack : stack.substring(0, blank);
            String below = blank < 0 ? "" : stack.substring(blank + 1);
            if (!GRAMMAR.containsKey(top)) {
                done.add(stack);
                continue;
            }
            for (String way : GRAMMAR.get(top)) {
                rest.add(way.isEmpty() ? below : below.isEmpty() ? way : way + " " + below);
            }
        }
        return done;
    }

    private static boolean matches(String symbol, String token) {
        boolean isWord = token.matches("[a-z]{1,12}");
        switch (symbol) {
            case "W": return isWord;
            case "V": return isWord && !RESERVED.contains(token);
            case "N": return token.matches("[0-9]{1,4}");
            default: return symbol.equals(token);
        }
    }

    /** The first token ahead of another that is out of bounds, twice or too many, and which of these. */
    private static int[] firstOther(List<String> tokens, int end) {
        Set<String> had = new HashSet<>();
        int clause = 0;
        int first = 0;
        String deed = "";
        int[] counts = new int[3];
        for (int i = 0; i < end; i++) {
            String token = tokens.get(i);
            if (token.equals(";")) {
                clause++;
                first = i + 1;
                continue;
            }
            String kind = tokens.get(first).equals("refuse") ? "clergy"
                    : tokens.get(first).equals("stand") ? "void" : tokens.get(first);
            boolean isPlain = PLAIN.contains(kind);
            if (i == first && isPlain && !had.add(kind)) {
                return new int[] {i, 3};
            }
            if (i == first && clause >= 40) {
                return new int[] {i, 4};
            }
            if (i == first + 1 && !isPlain && !kind.equals("strike") && !had.add(kind + " " + token)) {
                return new int[] {i, 3};
            }
            if (i == first + 1 && BOUNDS.containsKey(kind) && outside(token, BOUNDS.get(kind))) {
                return new int[] {i, 2};
            }
            if (i == first + 1 && kind.equals("strike") && outside(token, new int[] {0, 1})) {
                return new int[] {i, 2};
            }
            if (kind.equals("words") && i == first + 10) {
                return new int[] {i, 4};
            }
            if (kind.equals("deed") && i > first + 2 && isTooMany(tokens.get(i - 1), token, counts, i == first + 3)) {
                return new int[] {i, 4};
            }
        }
        return null;
    }

    private static boolean outside(String number, int[] bounds) {
        return Integer.parseInt(number) < bounds[0] || Integer.parseInt(number) > bounds[1];
    }

    /** Counts tests, terms of the sum and open brackets of a deed. */
    private static boolean isTooMany(String before, String token, int[] counts, boolean isFirst) {
        if (isFirst) {
            counts[0] = 0;
            counts[2] = 0;
        }
        if (token.equals("(")) {
            return ++counts[2] > 6;
        }
        if (token.equals(")")) {
            counts[2]--;
        }
        if (!matches("V", token) && !matches("N", token)) {
            return false;
        }
        if (before.equals("+")) {
            return ++counts[1] > 4;
        }
        counts[1] = 1;
        boolean sameTest = before.equals("above") || before.equals("below") || before.equals("is");
        return !sameTest && ++counts[0] > 20;
    }

    // ---- texts

    private static String word() {
        int n = random.nextInt(12);
        return n == 0 ? RESERVED.get(random.nextInt(7)) : n == 1 ? "deed" : n == 2 ? "jury" : "" + (char) ('a' + random.nextInt(4));
    }

    private static String number() {
        int n = random.nextInt(8);
        return n == 0 ? "9999" : n == 1 ? "00" + random.nextInt(30) : "" + random.nextInt(n == 2 ? 30 : 5);
    }

    private static List<String> randomText() {
        List<String> tokens = new ArrayList<>();
        int clauses = random.nextInt(10) == 0 ? 38 + random.nextInt(5) : random.nextInt(5);
        for (int i = 0; i < clauses; i++) {
            if (clauses > 20) {
                tokens.addAll(List.of("keep", "k" + (char) ('a' + i / 26) + (char) ('a' + i % 26)));
            } else {
                write("CLAUSE", tokens, 0);
            }
            tokens.add(";");
        }
        return tokens;
    }

    private static void write(String symbol, List<String> tokens, int depth) {
        if (symbol.equals("W")) {
            tokens.add(word());
        } else if (symbol.equals("V")) {
            tokens.add("" + (char) ('a' + random.nextInt(4)));
        } else if (symbol.equals("N")) {
            tokens.add(number());
        } else if (!GRAMMAR.containsKey(symbol)) {
            tokens.add(symbol);
        } else {
            String[] ways = GRAMMAR.get(symbol);
            String way = ways[wayOn(symbol, ways.length, depth)];
            for (String part : way.isEmpty() ? new String[0] : way.split(" ")) {
                write(part, tokens, depth + 1);
            }
        }
    }

    private static int wayOn(String symbol, int ways, int depth) {
        switch (symbol) {
            case "CLAUSE": return random.nextInt(3) == 0 ? 0 : random.nextInt(ways);
            case "MORE": return random.nextInt(8) > 0 ? 1 : 0;
            case "ONE": return depth < 80 && random.nextInt(5) < 2 ? random.nextInt(2) : 2;
            case "OTHER": return random.nextInt(ways);
            case "TERM": return random.nextInt(3) / 2;
            default: return ways > 1 && depth < 80 && random.nextInt(5) < 2 ? 1 : 0;
        }
    }

    private static void spoil(List<String> tokens) {
        int i = random.nextInt(tokens.size());
        String[] signs = {";", "=", "(", ")", "+", "or", "not", "unless", "is", "deed", "void", "a", "3", "12345", "A", "!",
            "abcdefghijklm", "words", "strike"};
        switch (random.nextInt(4)) {
            case 0:
                tokens.remove(i);
                break;
            case 1:
                tokens.add(i, signs[random.nextInt(signs.length)]);
                break;
            case 2:
                tokens.set(i, signs[random.nextInt(signs.length)]);
                break;
            default:
                while (tokens.size() > i) {
                    tokens.remove(tokens.size() - 1);
                }
        }
    }

    // ---- conditions

    private static final class Node {
        String how;
        Node first;
        Node second;
        int test;
    }

    private static int tests;
    private static final List<String[]> sums = new ArrayList<>();

    private static Node node(int depth, StringBuilder text, int strength) {
        Node n = new Node();
        int kind = depth > 4 ? 3 : random.nextInt(4);
        if (tests > 14) {
            kind = 3;
        }
        if (kind == 3) {
            n.how = "test";
            n.test = tests++;
            String[] sides = {sum(), RESERVED.get(4 + random.nextInt(3)), sum()};
            if (random.nextInt(3) == 0) {
                sides = new String[] {sides[0]};
            }
            sums.add(sides);
            text.append(String.join(" ", sides));
            return n;
        }
        n.how = kind == 0 ? "or" : kind == 1 ? "and" : "not";
        // A weaker joining stands in brackets inside a stronger one.
        boolean brackets = kind < strength || depth < 4 && random.nextInt(5) == 0;
        text.append(brackets ? "(" : "");
        if (kind == 2) {
            text.append("not ");
            n.first = node(depth + 1, text, 2);
        } else {
            n.first = node(depth + 1, text, kind);
            text.append(" ").append(n.how).append(" ");
            n.second = node(depth + 1, text, kind);
        }
        text.append(brackets ? ")" : "");
        return n;
    }

    private static String sum() {
        StringBuilder b = new StringBuilder();
        for (int i = 0; i == 0 || i < 4 && random.nextInt(3) == 0; i++) {
            b.append(i == 0 ? "" : "+").append(random.nextInt(4) == 0 ? "" + random.nextInt(4) : "" + (char) ('a' + random.nextInt(5)));
        }
        return b.toString();
    }

    private static int valueOf(String sum, Map<String, Integer> facts) {
        int value = 0;
        for (String term : sum.split("\\+")) {
            value += Character.isDigit(term.charAt(0)) ? Integer.parseInt(term) : facts.getOrDefault(term, 0);
        }
        return value;
    }

    private static boolean holds(String[] test, Map<String, Integer> facts) {
        int first = valueOf(test[0], facts);
        if (test.length == 1) {
            return first > 0;
        }
        int second = valueOf(test[2], facts);
        return test[1].equals("above") ? first > second : test[1].equals("below") ? first < second : first == second;
    }

    private static boolean holds(Node n, int met) {
        switch (n.how) {
            case "test": return (met >> n.test & 1) == 1;
            case "not": return !holds(n.first, met);
            case "and": return holds(n.first, met) && holds(n.second, met);
            default: return holds(n.first, met) || holds(n.second, met);
        }
    }

    private static boolean made(Node deed, Node unless, int met) {
        return holds(deed, met) && (unless == null || !holds(unless, met));
    }

    private static void compareCondition() {
        StringBuilder text = new StringBuilder("deed d = ");
        tests = 0;
        sums.clear();
        Node deed = node(0, text, 0);
        Node unless = null;
        if (tests < 15 && random.nextBoolean()) {
            text.append(" unless ");
            unless = node(2, text, 0);
        }
        text.append(";");
        Map<String, Integer> facts = new HashMap<>();
        StringBuilder row = new StringBuilder("d;");
        for (char f = 'a'; f < 'f'; f++) {
            if (random.nextBoolean()) {
                int value = random.nextInt(4);
                facts.put("" + f, value);
                row.append(f).append(value == 1 ? "" : "=" + value).append(";");
            }
        }
        if (text.length() > 1200 || tests > 20) {
            return;
        }
        int met = 0;
        for (int t = 0; t < tests; t++) {
            met |= holds(sums.get(t), facts) ? 1 << t : 0;
        }
        int lack = made(deed, unless, met) ? -1 : 99;
        for (int t = tests - 1; t >= 0 && lack != -1; t--) {
            lack = made(deed, unless, met ^ 1 << t) ? t : lack;
        }
        AssizeRide x = Clerk.under(text.toString());
        c.due("weigh " + row + " by " + text, Clerk.say(x, row.toString()).weigh(0, 0), lack == -1 ? 1 : 0);
        c.due("met " + row + " by " + text, x.why(0), met);
        c.due("lacks " + row + " by " + text, x.why(1), lack);
        c.due("tests of " + text, Clerk.say(x, "d").tells(0, 0, 0), tests);
    }
}
