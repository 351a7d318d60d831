import java.util.ArrayList;
import java.util.List;
import java.util.Random;

/** Promises 13, 15 to 20 under several ACTS that strike and quarrel, against the document's words on what HOLDS. */
public final class LawOracleTest {
    private static final Clerk c = new Clerk();
    private static final int MOST_CALLS = 512;
    private static final int STRIKE = 14;
    private static final String[] NAMES = {"deed", "words", "death", "fine", "clergy", "keep", "mend", "jury", "land", "kin",
        "challenge", "hundred", "bill", "void"};
    private static final int[] MOST = {0, 0, 0, 9999, 0, 0, 0, 12, 9999, 4, 12, 12, 23};
    private static final int[] WITHOUT = {Clerk.NONE, 0, 0, 0, 0, 0, 0, 6, 20, 2, 2, 1, 12, 0};
    private static final String[] DEEDS = {"t", "u", "deed"};

    /** A strike has the number of an ACT, and a deed or none; a deed's number is how many TESTS it has, all of fact f. */
    private record Clause(int kind, String deed, int number) { }

    private record Act(int day, int shires, List<Clause> clauses) { }

    private final Random random;
    private final AssizeRide x = new AssizeRide();
    private final List<Act> acts = new ArrayList<>();
    private int calls;

    public static void main(String[] args) {
        int seeds = args.length > 0 ? Integer.parseInt(args[0]) : 400;
        for (int seed = 0; seed < seeds; seed++) {
            new LawOracleTest(seed).run(seed);
        }
        c.close();
    }

    private LawOracleTest(int seed) {
        random = new Random(seed);
    }

    private void run(int seed) {
        while (calls < MOST_CALLS - 60) {
            if (acts.size() < 12 && random.nextInt(8) == 0) {
                enact();
            } else {
                ask("seed " + seed + ", call " + calls + ", of " + acts);
            }
        }
    }

    private void feed(String text) {
        Clerk.say(x, text);
        calls += 2 + (text.length() + 19) / 20;
    }

    // ---- ACTS

    private void enact() {
        int latest = acts.isEmpty() ? 0 : acts.get(acts.size() - 1).day;
        int day = latest + random.nextInt(3) / 2 * random.nextInt(4);
        int shires = random.nextBoolean() ? 63 : 1 + random.nextInt(63);
        Act a = new Act(day, shires, new ArrayList<>());
        StringBuilder text = new StringBuilder();
        for (int kind = 0; kind < NAMES.length; kind++) {
            for (int d = 0; d < (kind < 7 ? DEEDS.length : 1); d++) {
                if (random.nextInt(5) == 0) {
                    write(a, kind, kind < 7 ? DEEDS[d] : null, text);
                }
            }
            while (!acts.isEmpty() && random.nextInt(18) == 0) {
                int struck = random.nextInt(acts.size());
                String deed = random.nextInt(3) == 0 ? null : DEEDS[random.nextInt(DEEDS.length)];
                a.clauses.add(new Clause(STRIKE, deed, struck));
                text.append("strike ").append(struck).append(deed == null ? "" : " " + deed).append(';');
            }
        }
        feed(text.toString());
        c.due("act " + text, x.act(day, shires), acts.size());
        acts.add(a);
        int[] told = {day, shires, a.clauses.size()};
        for (int what = 0; what < told.length; what++) {
            c.due("told " + what + " of " + text, x.told(acts.size() - 1, what), told[what]);
        }
        calls += 4;
    }

    private void write(Act a, int kind, String deed, StringBuilder text) {
        boolean otherwise = (kind == 4 || kind == 13) && random.nextInt(3) == 0;
        text.append(otherwise ? kind == 4 ? "refuse" : "stand" : NAMES[kind]).append(deed == null ? "" : " " + deed);
        int number = otherwise ? 0 : 1;
        if (kind < 2) {
            number = 1 + random.nextInt(8);
            text.append(kind == 0 ? " = f" : "").append((kind == 0 ? " or f" : " f").repeat(kind == 0 ? number - 1 : number));
        } else if (kind == 3 || kind > 6 && kind < 13) {
            number = random.nextInt(MOST[kind]) + 1;
            text.append(' ').append(number);
        }
        text.append(';');
        a.clauses.add(new Clause(kind, deed, number));
    }

    // ---- what HOLDS

    private boolean isBegun(int a, int day, int shire) {
        return acts.get(a).day <= day && (acts.get(a).shires >> shire & 1) == 1;
    }

    private boolean isStruck(int a, Clause k, int day, int shire) {
        for (int b = a + 1; b < acts.size(); b++) {
            for (Clause s : acts.get(b).clauses) {
                boolean strikesIt = s.kind == STRIKE && s.number == a
                        && (s.deed == null || k.deed != null && s.deed.equals(k.deed));
                if (strikesIt && isBegun(b, day, shire)) {
                    return true;
                }
            }
        }
        return false;
    }

    private Clause holding(int a, int kind, String deed, int day, int shire) {
        for (Clause k : acts.get(a).clauses) {
            boolean isSuch = k.kind == kind && (kind > 6 || k.deed.equals(deed));
            if (isSuch && isBegun(a, day, shire) && !isStruck(a, k, day, shire)) {
                return k;
            }
        }
        return null;
    }

    private void ask(String when) {
        int kind = random.nextInt(NAMES.length);
        String deed = DEEDS[random.nextInt(DEEDS.length)];
        int day = random.nextInt(12);
        int shire = random.nextInt(6);
        int law = Clerk.NONE;
        for (int a = 0; a < acts.size(); a++) {
            law = holding(a, kind, deed, day, shire) == null ? law : a;
        }
        Clause clause = law == Clerk.NONE ? null : holding(law, kind, deed, day, shire);
        int quarrelling = 0;
        for (int a = 0; law != Clerk.NONE && a < acts.size(); a++) {
            boolean isOfThatDay = acts.get(a).day == acts.get(law).day;
            quarrelling |= isOfThatDay && holding(a, kind, deed, day, shire) != null ? 1 << a : 0;
        }
        String what = when + ": " + kind + " " + deed + " on " + day + " in " + shire;
        calls += 4;
        feed(deed);
        c.due("law " + what, x.law(kind, day, shire), law);
        feed(deed);
        c.due("tells " + what, x.tells(kind, day, shire), clause == null ? WITHOUT[kind] : clause.number);
        feed(deed);
        c.due("quarrel " + what, x.quarrel(kind, day, shire), Integer.bitCount(quarrelling) > 1 ? quarrelling : 0);
        if (kind == 0) {
            boolean isTold = random.nextBoolean();
            feed(deed + (isTold ? ";f;" : ";g;"));
            c.due("weigh " + what, x.weigh(day, shire), clause == null ? Clerk.STATE : isTold ? 1 : 0);
        }
    }
}
