import java.lang.management.ManagementFactory;
import java.lang.reflect.InvocationTargetException;
import java.lang.reflect.Method;
import java.util.ArrayList;
import java.util.Comparator;
import java.util.List;
import java.util.Random;

/** No call throws, for any arguments in any state; the same calls answer the same; a run stays small. */
public final class EndureTest {
    private static final Clerk c = new Clerk();
    private static final int[] EDGES = {Integer.MIN_VALUE, Integer.MAX_VALUE, -100, -1, 63, 64, 99, 100, 119, 120, 299, 399,
        400, 9999, 10000, 1200};
    private static final String[] TEXTS = {"t", "u", "", "a;", "a; b=3;", "w", "w v", "v w x y z", "t; a;", "u; b=2;", "z",
        "01z", "012", "zzzz", "1", "123", "124123", "000111222333444555666777888999", "!", "abcdefghijklm", "a=;", "a b;",
        "deed t = a; words t w v; death t; clergy t; keep t; mend t; jury 1; hundred 0; bill 0; land 0; void;",
        "deed u = a or b above 1 unless c; fine u 9; keep u; jury 2; hundred 1; bill 1; land 1; kin 4; challenge 3;",
        "strike 0; strike 1 t; refuse t; stand;", "deed t = not (a and not (b or c)) unless d is 3+e;", "jury 12; land 0;",
        "words t w v x y z a b c;", "deed t = " + "not ".repeat(200) + "a;", "deed t = ((((((a)))))) or (b);", "jury 0;"};

    public static void main(String[] args) throws Exception {
        List<Method> calls = calls();
        c.due("methods of the face", calls.size(), 68);
        for (int seed = 0; seed < 400; seed++) {
            long first = run(calls, seed, 512);
            if (seed % 40 == 0) {
                c.due("the same answers, seed " + seed, run(calls, seed, 512), first);
            }
        }
        // Rules 7 and 13 of LANGUAGE.md hold behind the 512th call too.
        c.due("the same answers of a long run", run(calls, 1000, 30000), run(calls, 1000, 30000));
        room();
        farBehind();
        c.close();
    }

    private static List<Method> calls() {
        List<Method> calls = new ArrayList<>(List.of(AssizeRide.class.getDeclaredMethods()));
        calls.removeIf(m -> !java.lang.reflect.Modifier.isPublic(m.getModifiers()));
        calls.sort(Comparator.comparing(Method::getName));
        return calls;
    }

    private static int argument(Random random) {
        int n = random.nextInt(40);
        if (n == 0) {
            return EDGES[random.nextInt(EDGES.length)];
        }
        return n == 1 ? random.nextInt() : n < 8 ? random.nextInt(12) - 2 : random.nextInt(4);
    }

    /** Plays so many calls, texts that are fed among them: a number that hangs on every answer. */
    private static long run(List<Method> calls, long seed, int most) throws Exception {
        Random random = new Random(seed);
        AssizeRide x = new AssizeRide();
        long sum = 0;
        for (int n = 0; n < most; n++) {
            Method call = calls.get(random.nextInt(calls.size()));
            if (random.nextInt(3) > 0) {
                n += feed(x, TEXTS[random.nextInt(TEXTS.length)]);
            }
            Object[] given = new Object[call.getParameterCount()];
            for (int i = 0; i < given.length; i++) {
                given[i] = call.getParameterTypes()[i] == boolean.class ? (Object) random.nextBoolean() : (Object) argument(random);
            }
            if (n >= most) {
                return sum;
            }
            try {
                sum = sum * 31 + (Integer) call.invoke(x, given);
            } catch (InvocationTargetException e) {
                c.due(call.getName() + " of seed " + seed + " threw " + e.getCause(), 1, 0);
                return sum;
            }
        }
        return sum;
    }

    /** As Clerk.say, but it asks for nothing, as it also plays behind the 512th call: how many calls it made. */
    private static int feed(AssizeRide x, String text) {
        x.end(0);
        for (int i = 0; i < text.length(); i += 20) {
            int[] fives = new int[5];
            for (int j = 0; j < 20; j++) {
                fives[j / 4] = fives[j / 4] << 8 | (i + j < text.length() ? text.charAt(i + j) : ' ');
            }
            x.feed(fives[0], fives[1], fives[2], fives[3], fives[4]);
        }
        x.end(text.length());
        return 2 + (text.length() + 19) / 20;
    }

    /** More clauses, terms and changes of STATES than 512 calls can tell: the answers are free then, but nothing throws. */
    private static void farBehind() {
        AssizeRide x = new AssizeRide();
        StringBuilder terms = new StringBuilder();
        for (int d = 0; d < 8; d++) {
            terms.append("deed ").append((char) ('a' + d)).append("=0").append("or(0)and 1is 1or 2".repeat(6)).append(";");
        }
        for (int i = 0; i < 35; i++) {
            feed(x, terms.toString());
            x.act(0, 63);
            feed(x, "h; x;");
            x.weigh(0, 0);
        }
        AssizeRide y = new AssizeRide();
        y.person(0, 0);
        for (int m = 0; m < 100; m++) {
            feed(y, "t");
            y.crown(0, 0, 0, 0);
            for (int i = 0; i < 40; i++) {
                y.putRight(m, i % 10, 0);
            }
        }
        c.due("it came to its end", 1, 1);
    }

    /** A run's room has some 7.3 million fields and elements; this keeps far below it, in bytes. */
    private static void room() {
        com.sun.management.ThreadMXBean threads = (com.sun.management.ThreadMXBean) ManagementFactory.getThreadMXBean();
        long id = Thread.currentThread().getId();
        long before = threads.getThreadAllocatedBytes(id);
        AssizeRide x = new AssizeRide();
        Clerk.settle(x, 20);
        for (int m = 0; m < 100; m++) {
            x.feed(0x74202020, 0x20202020, 0x20202020, 0x20202020, 0x20202020);
            x.crown(m % 20, 0, 0, 0);
        }
        for (int i = 0; i < 40; i++) {
            x.ride(0, 0, 1, 1);
            x.join();
            x.best(10);
        }
        long bytes = threads.getThreadAllocatedBytes(id) - before;
        System.out.println("a run that makes all it can took " + bytes + " bytes");
        c.due("a run stays below a megabyte", bytes < 1_000_000 ? 1 : 0, 1);
        c.due("its matters", x.count(4), 100);
    }
}
