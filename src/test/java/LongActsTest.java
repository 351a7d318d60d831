/** Promise 13: within 512 calls each ACT without a FAULT is taken while there are fewer than 30. */
public final class LongActsTest {
    private static final Clerk c = new Clerk();
    private static final int MOST_CALLS = 512;
    private static final int MOST_BYTES = 1200;
    private static final int FEEDS = MOST_BYTES / 20;

    private static AssizeRide x;
    private static int calls;

    public static void main(String[] args) {
        densestRun();
        allStand("1or", 20);
        allStand("1and", 20);
        allStand("1is1or", 20);
        allStand("1+1+1+1is1+1+1+1or", 20);
        allStand(" not1or", 20);
        allStand(" not(1)and", 20);
        longestWords();
        faultsBetween();
        thirtyActs();
        allClauses();
        c.close();
    }

    private static void begin() {
        x = new AssizeRide();
        calls = 0;
    }

    private static void within512() {
        c.due("calls so far are within 512", calls <= MOST_CALLS ? 1 : 0, 1);
    }

    /** Feeds a text without an end() of its own: blanks fill the last twenty bytes. */
    private static void feed(String text) {
        for (int i = 0; i < text.length(); i += 20) {
            int[] fives = new int[5];
            for (int j = 0; j < 20; j++) {
                fives[j / 4] = fives[j / 4] << 8 | (i + j < text.length() ? text.charAt(i + j) : ' ');
            }
            c.due("feed", x.feed(fives[0], fives[1], fives[2], fives[3], fives[4]), i + 20);
            calls++;
        }
    }

    private static int act(int day, String text) {
        feed(text);
        calls++;
        return x.act(day, 63);
    }

    /** A deed of so many TESTS: each but the last with its joining word behind it. */
    private static String deed(char name, String test, int tests) {
        String joined = test.repeat(tests);
        int behind = joined.length() - (test.endsWith("and") ? 3 : 2);
        return "deed " + name + "=" + joined.substring(0, behind) + ";";
    }

    /** As many deeds as so many bytes hold; the last may have fewer TESTS. */
    private static String deeds(String test, int tests, int bytes) {
        StringBuilder text = new StringBuilder();
        char name = 'a';
        for (int t = tests; t > 0; t--) {
            String next = deed(name, test, t);
            while (name <= 'z' && text.length() + next.length() <= bytes) {
                text.append(next);
                name++;
                next = deed(name, test, t);
            }
        }
        return text.toString();
    }

    /** 512 calls that feed and tell ACTS alone, of as many TESTS as their bytes hold. */
    private static void densestRun() {
        begin();
        int acts = 0;
        while (MOST_CALLS - calls > 1) {
            int feeds = Math.min(FEEDS, MOST_CALLS - calls - 1);
            c.due("densest act " + acts, act(acts, deeds("1or", 20, feeds * 20)), acts);
            acts++;
        }
        c.due("densest acts", acts, 9);
        within512();
    }

    /** Eight long ACTS, each of a day of its own, and each is THE LAW of its day as it was told. */
    private static void allStand(String test, int tests) {
        tellEight(test, tests);
        for (int a = 0; a < 8; a++) {
            feed("a");
            c.due("law of day " + a + " with " + test, x.law(0, a, 5), a);
            calls++;
        }
        within512();
        tellEight(test, tests);
        for (int a = 0; a < 8; a++) {
            feed("a;");
            boolean byNot = test.contains("not");
            c.due("weighed on day " + a + " with " + test, x.weigh(a, 0), byNot ? 0 : 1);
            c.due("met on day " + a + " with " + test, x.why(0), (1 << tests) - 1);
            calls += 2;
        }
        within512();
    }

    private static void tellEight(String test, int tests) {
        begin();
        for (int a = 0; a < 8; a++) {
            c.due("act " + a + " of " + test, act(a, deeds(test, tests, MOST_BYTES)), a);
        }
    }

    private static void longestWords() {
        begin();
        StringBuilder text = new StringBuilder();
        for (char name = 'a'; name <= 'z' && text.length() + 24 <= MOST_BYTES; name++) {
            text.append("words ").append(name).append(" a b c d e f g h;");
        }
        for (int a = 0; a < 8; a++) {
            c.due("act " + a + " of words", act(0, text.toString()), a);
        }
        feed("z");
        c.due("words of the last", x.tells(1, 0, 0), 8);
        calls++;
        within512();
    }

    /** An ACT with a FAULT at its end leaves no less room for those that come. */
    private static void faultsBetween() {
        begin();
        int acts = 0;
        for (int i = 0; i < 8; i++) {
            boolean isFaulty = i % 2 == 0;
            String text = deeds("1or", 20, MOST_BYTES - 5) + (isFaulty ? "or" : "");
            c.due("act with a fault or none", act(0, text), isFaulty ? Clerk.NONE : acts);
            c.due("its fault", x.fault(0), isFaulty ? 1 : 0);
            acts += isFaulty ? 0 : 1;
        }
        within512();
    }

    /** Thirty ACTS of as many feeds as 512 calls leave to each; the next one alone is FULL. */
    private static void thirtyActs() {
        begin();
        for (int a = 0; a < 30; a++) {
            c.due("act " + a + " of thirty", act(0, deeds("1or", 20, 16 * 20)), a);
        }
        c.due("the 31st", act(0, "jury 3;"), Clerk.FULL);
        within512();
    }

    /** Thirty ACTS of forty clauses each, and one more that is read to its end ahead of FULL. */
    private static void allClauses() {
        begin();
        StringBuilder forty = new StringBuilder();
        for (int i = 0; i < 40; i++) {
            forty.append(i < 26 ? "keep " : "mend ").append((char) ('a' + i % 26)).append(';');
        }
        for (int a = 0; a < 30; a++) {
            c.due("act " + a + " of forty clauses", act(0, forty.toString()), a);
        }
        c.due("the 31st of forty clauses", act(0, forty.toString()), Clerk.FULL);
        c.due("clauses of the last", x.told(29, 2), 40);
        c.due("clauses of the 31st", x.told(30, 2), Clerk.NONE);
        feed("n");
        c.due("the last clause of all", x.law(6, 0, 0), 29);
        feed("z");
        c.due("the last of its kind", x.law(5, 0, 0), 29);
        feed("o");
        c.due("there was none such", x.law(6, 0, 0), Clerk.NONE);
        calls += 5;
        within512();
    }
}
