import java.util.Random;

/** Promises 63 to 65: ROLLS, and how they are JOINED, also against all ways tried out. */
public final class RollTest {
    private static final Clerk c = new Clerk();
    private static final int[] TAKES = {7, 3, 5, 6, 1, 2, 4};

    public static void main(String[] args) {
        writing();
        joining();
        whenJoined();
        bestOfAllRows();
        c.close();
    }

    private static int roll(AssizeRide x, int r, String text) {
        return Clerk.say(x, text).roll(r);
    }

    private static void writing() {
        AssizeRide x = new AssizeRide();
        c.due("roll 3", roll(x, 3, "123"), Clerk.RANGE);
        c.due("roll -1", roll(x, -1, "123"), Clerk.RANGE);
        c.due("empty", roll(x, 0, ""), 0);
        c.due("one", roll(x, 0, "999"), 1);
        c.due("ten", roll(x, 2, "000111222333444555666777888999"), 10);
        c.due("eleven", roll(x, 2, "000111222333444555666777888999000"), Clerk.NONE);
        c.due("two figures", roll(x, 1, "12"), Clerk.NONE);
        c.due("a letter", roll(x, 1, "12a"), Clerk.NONE);
        c.due("a letter first", roll(x, 1, "a12"), Clerk.NONE);
        c.due("a blank", roll(x, 1, "12 "), Clerk.NONE);
        c.due("blanks between", roll(x, 1, "123 45"), Clerk.NONE);
        c.due("a sign below", roll(x, 1, "1/3"), Clerk.NONE);
        c.due("a sign above", roll(x, 1, "1:3"), Clerk.NONE);
        c.due("the others stay", x.join(), 2 * 9 + 1);
    }

    private static void rows(AssizeRide x, int... want) {
        for (int i = 0; i < want.length; i++) {
            c.due("joined(" + i / 4 + ", " + i % 4 + ")", x.joined(i / 4, i % 4), want[i]);
        }
        c.due("no row more", x.joined(want.length / 4, 0), Clerk.ABSENT);
    }

    private static void join(String first, String second, String third, int cost, int... want) {
        AssizeRide x = new AssizeRide();
        roll(x, 0, first);
        roll(x, 1, second);
        roll(x, 2, third);
        c.due("join of " + first + "," + second + "," + third, x.join(), cost);
        rows(x, want);
    }

    private static void joining() {
        int no = Clerk.NONE;
        join("", "", "", 0);
        join("123", "123", "123", 0, 0, 0, 0, 1);
        join("123", "124", "125", 3, 0, 0, 0, 0);
        join("123", "123", "125", 2, 0, 0, 0, 1);
        join("123", "", "", 2, 0, no, no, 0);
        join("123", "123", "", 1, 0, 0, no, 1);
        join("123", "124", "", 2, 0, 0, no, 0);
        join("120", "129", "", 2, 0, 0, no, 0);
        join("990", "", "999", 2, 0, no, 0, 0);
        join("129", "130", "", 4, 0, no, no, 0, no, 0, no, 0);
        join("092", "902", "", 4, 0, no, no, 0, no, 0, no, 0);
        join("123", "", "456", 4, 0, no, no, 0, no, no, 0, 0);
        join("", "123", "456", 4, no, 0, no, 0, no, no, 0, 0);
        join("123", "123", "456", 3, 0, 0, no, 1, no, no, 0, 0);
        join("123", "456", "123", 3, 0, no, 0, 1, no, 0, no, 0);
        join("123", "456", "456", 3, no, 0, 0, 1, 0, no, no, 0);
        join("123", "456", "789", 6, 0, no, no, 0, no, 0, no, 0, no, no, 0, 0);
        join("111", "222111", "111", 2, no, 0, no, 0, 0, 1, 0, 1);
        join("111111", "111", "111", 2, 0, 0, 0, 1, 1, no, no, 0);
        join("111222", "222111", "", 5, 0, no, no, 0, 1, 0, no, 1, no, 1, no, 0);
    }

    private static void whenJoined() {
        AssizeRide x = new AssizeRide();
        c.due("ahead of any", x.joined(0, 0), Clerk.ABSENT);
        roll(x, 0, "123");
        c.due("ahead of join", x.joined(0, 0), Clerk.ABSENT);
        c.due("join", x.join(), 2);
        c.due("joined", x.joined(0, 0), 0);
        c.due("lacks", x.joined(0, 1), Clerk.NONE);
        c.due("what 4", x.joined(0, 4), Clerk.ABSENT);
        c.due("what -1", x.joined(0, -1), Clerk.ABSENT);
        c.due("row 1", x.joined(1, 0), Clerk.ABSENT);
        c.due("row -1", x.joined(-1, 0), Clerk.ABSENT);
        roll(x, 1, "x");
        roll(x, 3, "123");
        c.due("a wrong roll changes nothing", x.joined(0, 0), 0);
        roll(x, 1, "123");
        c.due("a roll was told since", x.joined(0, 0), Clerk.ABSENT);
        c.due("join anew", x.join(), 1);
        c.due("join the same again", x.join(), 1);
        rows(x, 0, 0, Clerk.NONE, 1);
        c.due("sure", x.joined(0, 3), 1);
        roll(x, 0, "");
        c.due("a shorter roll", x.join(), 2);
        rows(x, Clerk.NONE, 0, Clerk.NONE, 0);
    }

    private static void bestOfAllRows() {
        Random random = new Random(5);
        for (int round = 0; round < 200; round++) {
            int most = round < 150 ? 4 : 2;
            String[] rolls = new String[3];
            for (int r = 0; r < 3; r++) {
                StringBuilder text = new StringBuilder();
                for (int n = random.nextInt(most); n > 0; n--) {
                    text.append("1").append(random.nextInt(2)).append(random.nextInt(3));
                }
                rolls[r] = text.toString();
            }
            AssizeRide x = new AssizeRide();
            for (int r = 0; r < 3; r++) {
                roll(x, r, rolls[r]);
            }
            String best = cheapest(rolls, new int[3]);
            c.due("cost of round " + round, x.join(), Integer.parseInt(best.substring(0, 3)));
            rows(x, rowsOf(best, rolls));
        }
        AssizeRide x = new AssizeRide();
        roll(x, 0, "000111222333444555666777888999");
        roll(x, 1, "100211322433544655766877988099");
        roll(x, 2, "200311422533644755866977088199");
        c.due("thirty rows", x.join(), 60);
        c.due("row 29", x.joined(29, 2), 9);
        c.due("row 30", x.joined(30, 2), Clerk.ABSENT);
    }

    /** Three figures of the least cost, and the places in TAKES of its rows: by trying all, least text first. */
    private static String cheapest(String[] rolls, int[] at) {
        String best = null;
        for (int t = 0; t < TAKES.length; t++) {
            int[] next = at.clone();
            boolean can = true;
            for (int r = 0; r < 3; r++) {
                next[r] += TAKES[t] >> r & 1;
                can &= 3 * next[r] <= rolls[r].length();
            }
            if (can) {
                String rest = cheapest(rolls, next);
                int cost = Integer.parseInt(rest.substring(0, 3)) + cost(rolls, at, TAKES[t]);
                String whole = String.format("%03d", cost) + t + rest.substring(3);
                best = best == null || whole.compareTo(best) < 0 ? whole : best;
            }
        }
        return best == null ? "000" : best;
    }

    private static int cost(String[] rolls, int[] at, int take) {
        int cost = 0;
        for (int r = 0; r < 3; r++) {
            cost += 1 - (take >> r & 1);
            for (int q = r + 1; q < 3; q++) {
                if ((take >> r & 1) == 1 && (take >> q & 1) == 1) {
                    String a = rolls[r].substring(3 * at[r], 3 * at[r] + 3);
                    String b = rolls[q].substring(3 * at[q], 3 * at[q] + 3);
                    cost += a.equals(b) ? 0 : a.substring(0, 2).equals(b.substring(0, 2)) ? 1 : 4;
                }
            }
        }
        return cost;
    }

    private static int[] rowsOf(String best, String[] rolls) {
        int[] rows = new int[4 * (best.length() - 3)];
        int[] at = new int[3];
        for (int i = 3; i < best.length(); i++) {
            int take = TAKES[best.charAt(i) - '0'];
            String[] lines = new String[3];
            for (int r = 0; r < 3; r++) {
                boolean takes = (take >> r & 1) == 1;
                lines[r] = takes ? rolls[r].substring(3 * at[r], 3 * at[r] + 3) : "none" + r;
                rows[4 * (i - 3) + r] = takes ? at[r] : Clerk.NONE;
                at[r] += takes ? 1 : 0;
            }
            boolean sure = lines[0].equals(lines[1]) || lines[0].equals(lines[2]) || lines[1].equals(lines[2]);
            rows[4 * (i - 3) + 3] = sure ? 1 : 0;
        }
        return rows;
    }
}
