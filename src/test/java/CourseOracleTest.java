import java.util.ArrayList;
import java.util.LinkedHashMap;
import java.util.List;
import java.util.Map;
import java.util.Random;
import java.util.function.ToIntFunction;

/**
 * Promises 5 to 12, 21 to 51 (but for mend) and 66 to 69 in random runs, against a model that keeps what happened and works each
 * answer out anew by the document's words.
 */
public final class CourseOracleTest {
    private static final Clerk c = new Clerk();
    private static final int[] WITHOUT = {Clerk.NONE, 0, 0, 0, 0, 0, 0, 6, 20, 2, 2, 1, 12, 0};
    private static final String[] DEEDS = {"t", "u"};
    private static final String[] CONDITIONS = {"a", "a and b", "a or b above 1 unless c", "not a",
        "a and not (b or c is 2)"};

    private static final int MOST_CALLS = 512;
    // Leaves calls for the last step and for some of the questions behind it.
    private static final int CALLS_OF_STEPS = 360;

    /** Runs so many seeds (600 without an argument), from a first one on. */
    public static void main(String[] args) {
        int seeds = args.length > 0 ? Integer.parseInt(args[0]) : 600;
        int first = args.length > 1 ? Integer.parseInt(args[1]) : 0;
        for (int seed = first; seed < first + seeds; seed++) {
            new CourseOracleTest(seed).run();
        }
        c.close();
    }

    private record Telling(char kind, int p, int q, int amount, int from, int known) { }

    private record Change(int state, int from, int known) { }

    private record Stay(int p, int shire, int in, int out) { }

    private record Clause(int kind, String deed, int number, List<String> words) { }

    private record Act(int day, int shires, List<Clause> clauses) { }

    private static final class Bond {
        int p;
        int shire;
        int from;
        int to;
        int pounds;
        boolean met;
    }

    private static final class Case {
        String deed;
        int suer;
        int accused;
        int shire;
        int hundred;
        int day;
        int pounds;
        int state;
        boolean death;
        int fine;
        int heard = Clerk.NONE;
        boolean byJudges;
        int banShire;
        int banTo;
        List<String> words;
        Map<String, Integer> alleged;
        Map<String, Integer> found;
        List<Integer> witnesses = new ArrayList<>();
        List<Integer> jurors = new ArrayList<>();
        List<Integer> challenged = new ArrayList<>();
        List<Change> changes = new ArrayList<>();
        int rightings;
    }

    private final int seed;
    private final Random random;
    private final AssizeRide x = new AssizeRide();
    private final List<ToIntFunction<AssizeRide>> made = new ArrayList<>();
    private int calls;
    private AssizeRide asker;
    private int callsOfAsker;
    private int clock;
    private final List<int[]> people = new ArrayList<>();
    private final List<Telling> tellings = new ArrayList<>();
    private final List<Act> acts = new ArrayList<>();
    private final List<Case> cases = new ArrayList<>();
    private final List<Stay> stays = new ArrayList<>();
    private final List<Bond> bonds = new ArrayList<>();
    private final List<int[]> left = new ArrayList<>();
    private final List<Object[]> settled = new ArrayList<>();

    private CourseOracleTest(int seed) {
        this.seed = seed;
        this.random = new Random(seed);
    }

    private void run() {
        for (int p = 0; p < 9; p++) {
            person(p < 8 ? 0 : 1, random.nextInt(2));
            land(p, 40, 0);
        }
        enact();
        while (calls < CALLS_OF_STEPS) {
            step();
            if (random.nextInt(12) == 0) {
                compareAll();
            }
        }
        compareAll();
    }

    /** Makes a call of the run, and keeps it. */
    private void due(String name, ToIntFunction<AssizeRide> call, int want) {
        made.add(call);
        calls++;
        c.due("seed " + seed + ", call " + calls + ": " + name, call.applyAsInt(x), want);
    }

    private void ask(String question, int got, int want) {
        c.due("seed " + seed + ", behind call " + calls + ": " + question, got, want);
    }

    /**
     * An object for which the run was played as for x, with a call left: what is answered behind the 512th is free, so the
     * questions of one comparison go to as many objects as they need.
     */
    private AssizeRide asker() {
        if (callsOfAsker >= MOST_CALLS) {
            asker = new AssizeRide();
            callsOfAsker = calls;
            for (ToIntFunction<AssizeRide> call : made) {
                call.applyAsInt(asker);
            }
        }
        callsOfAsker++;
        return asker;
    }

    private int upTo(int n) {
        return random.nextInt(n + 1);
    }

    /** Mostly one that is there, at times one that isn't. */
    private int one(int size) {
        return random.nextInt(25) == 0 ? size - upTo(2) * (size + 1) : random.nextInt(Math.max(size, 1));
    }

    private int someCase() {
        int newest = cases.size() - 1;
        return random.nextInt(3) == 0 && newest >= 0 ? newest : one(cases.size());
    }

    private void feed(String text) {
        ToIntFunction<AssizeRide> say = r -> Clerk.say(r, text) == r ? 1 : 0;
        made.add(say);
        say.applyAsInt(x);
        calls += 2 + (text.length() + 19) / 20;
    }

    // ---- the law, by the document's words

    private Clause lawOf(int kind, String deed, int day, int shire) {
        for (int a = acts.size() - 1; a >= 0; a--) {
            if (!isBegun(acts.get(a), day, shire)) {
                continue;
            }
            for (Clause k : acts.get(a).clauses) {
                if (k.kind == kind && (kind > 6 || k.deed.equals(deed)) && !isStruck(a, kind > 6 ? null : deed, day, shire)) {
                    return k;
                }
            }
        }
        return null;
    }

    private static boolean isBegun(Act a, int day, int shire) {
        return a.day <= day && (a.shires >> shire & 1) == 1;
    }

    private boolean isStruck(int a, String deed, int day, int shire) {
        for (int b = a + 1; b < acts.size(); b++) {
            for (Clause k : acts.get(b).clauses) {
                if (k.kind == 14 && k.number == a && isBegun(acts.get(b), day, shire)
                        && (k.deed == null || k.deed.equals(deed))) {
                    return true;
                }
            }
        }
        return false;
    }

    private int tells(int kind, Case m) {
        Clause k = lawOf(kind, m.deed, m.day, m.shire);
        return k == null ? WITHOUT[kind] : k.number;
    }

    private static boolean[] testsOf(int condition, Map<String, Integer> facts) {
        int a = facts.getOrDefault("a", 0);
        int b = facts.getOrDefault("b", 0);
        int d = facts.getOrDefault("c", 0);
        switch (condition) {
            case 0:
            case 3:
                return new boolean[] {a > 0};
            case 1:
                return new boolean[] {a > 0, b > 0};
            case 2:
                return new boolean[] {a > 0, b > 1, d > 0};
            default:
                return new boolean[] {a > 0, b > 0, d == 2};
        }
    }

    private static boolean isMade(int condition, boolean[] t) {
        switch (condition) {
            case 0:
                return t[0];
            case 1:
                return t[0] && t[1];
            case 2:
                return (t[0] || t[1]) && !t[2];
            case 3:
                return !t[0];
            default:
                return t[0] && !(t[1] || t[2]);
        }
    }

    /** What LACKS; NONE if the deed is MADE. */
    private static int lacking(int condition, Map<String, Integer> facts) {
        boolean[] t = testsOf(condition, facts);
        if (isMade(condition, t)) {
            return Clerk.NONE;
        }
        for (int i = 0; i < t.length; i++) {
            t[i] = !t[i];
            if (isMade(condition, t)) {
                return i;
            }
            t[i] = !t[i];
        }
        return 99;
    }

    private boolean isMade(Case m, Map<String, Integer> facts) {
        Clause k = lawOf(0, m.deed, m.day, m.shire);
        return k != null && lacking(k.number, facts) == Clerk.NONE;
    }

    private int badness(Case m) {
        if (m.words == null || m.alleged == null) {
            return 100;
        }
        Clause deed = lawOf(0, m.deed, m.day, m.shire);
        if (deed == null) {
            return 200;
        }
        Clause words = lawOf(1, m.deed, m.day, m.shire);
        int behind = 0;
        for (int i = 0; words != null && i < words.words.size(); i++) {
            int place = m.words.subList(behind, m.words.size()).indexOf(words.words.get(i));
            if (place < 0) {
                return 300 + i;
            }
            behind += place + 1;
        }
        int lack = lacking(deed.number, m.alleged);
        return lack == Clerk.NONE ? 0 : 400 + lack;
    }

    // ---- what was told, by the document's words

    private int landFor(int p, int day, int known) {
        Telling best = null;
        for (Telling t : tellings) {
            if (t.kind == 'l' && t.p == p && t.known <= known && t.from <= day && (best == null || t.from >= best.from)) {
                best = t;
            }
        }
        return best == null ? 0 : best.amount;
    }

    private boolean isDead(int p, int day, int known) {
        return tellings.stream().anyMatch(t -> t.kind == 'd' && t.p == p && t.known <= known && t.from <= day);
    }

    private int kinFor(int p, int q, int known) {
        return tellings.stream().filter(t -> t.kind == 'k' && t.known <= known
                && (t.p == p && t.q == q || t.p == q && t.q == p)).reduce((s, t) -> t).map(Telling::amount).orElse(0);
    }

    private boolean may(Case m, int p, int day, int known) {
        int degree = tells(9, m);
        for (int party : new int[] {m.suer, m.accused}) {
            int kin = party == Clerk.NONE ? 0 : kinFor(p, party, known);
            if (p == party || kin > 0 && kin <= degree) {
                return false;
            }
        }
        return people.get(p)[0] == m.shire && !isDead(p, day, known) && landFor(p, day, known) >= tells(8, m)
                && !m.witnesses.contains(p);
    }

    private static boolean isPlea(Case m) {
        return m.suer != Clerk.NONE;
    }

    private static boolean isOpen(Case m) {
        return List.of(0, 2, 3, 7).contains(m.state);
    }

    private static boolean wantsJurors(Case m) {
        return m.state == (isPlea(m) ? 0 : 2);
    }

    private boolean isFull(Case m) {
        return m.jurors.size() == tells(7, m) && ofHundred(m) >= tells(11, m);
    }

    private int ofHundred(Case m) {
        return (int) m.jurors.stream().filter(p -> people.get(p)[1] == m.hundred).count();
    }

    private List<Integer> drawable(Case m) {
        List<Integer> list = new ArrayList<>();
        for (int p = 0; p < people.size(); p++) {
            if (may(m, p, clock, clock) && !m.jurors.contains(p) && !m.challenged.contains(p)) {
                list.add(p);
            }
        }
        return list;
    }

    private void change(Case m, int state) {
        m.state = state;
        m.changes.add(new Change(state, clock, clock));
    }

    private int again(Case m) {
        m.jurors.clear();
        m.challenged.clear();
        m.found = null;
        m.fine = 0;
        m.death = false;
        m.heard = Clerk.NONE;
        m.byJudges = false;
        change(m, isPlea(m) ? 0 : 2);
        return m.state;
    }

    private void sentence(Case m) {
        m.death = tells(2, m) == 1;
        m.fine = m.death ? 0 : tells(3, m);
        change(m, 5);
    }

    private Case at(int m) {
        return m >= 0 && m < cases.size() ? cases.get(m) : null;
    }

    private Case crownAt(int m) {
        Case k = at(m);
        return k == null || isPlea(k) ? null : k;
    }

    private boolean isThere(int p) {
        return p >= 0 && p < people.size();
    }

    // ---- steps

    private void step() {
        // Every second run leans to gaols and bonds, the others to MATTERS.
        if (random.nextInt(5) < 3) {
            if (seed % 2 == 0) {
                takeOn(someCase());
            } else {
                gaolsAndBonds();
            }
            return;
        }
        switch (random.nextInt(26)) {
            case 0: enact(); break;
            case 1: person(upTo(1), upTo(2)); break;
            case 2: land(one(people.size()), random.nextInt(3) * 20 + upTo(10), upTo(clock + 3)); break;
            case 3: death(); break;
            case 4: kin(one(people.size()), one(people.size()), upTo(4)); break;
            case 5: pass(); break;
            case 6:
            case 7: beginCrown(); break;
            case 8: beginPlea(); break;
            case 9: wordsAndFacts(someCase()); break;
            case 10: bill(someCase(), random.nextInt(3) == 0 ? upTo(24) : 23); break;
            case 11: witness(someCase(), one(people.size())); break;
            case 12:
            case 13:
            case 14: fillJury(someCase()); break;
            case 15: challenge(someCase()); break;
            case 16:
            case 17: hear(someCase()); break;
            case 18:
            case 19: judgement(someCase()); break;
            case 20: settle(DEEDS[upTo(1)], random.nextInt(3) > 0); break;
            case 21: undo(someCase()); break;
            case 22:
            case 23: prisoners(); break;
            case 24: bondOrSight(); break;
            default: putRight(someCase(), upTo(10), upTo(clock + 1)); break;
        }
    }

    /** A call that the STATE of a MATTER allows, or nearly. */
    private void takeOn(int number) {
        Case m = at(number);
        if (m == null) {
            beginCrown();
        } else if (wantsJurors(m)) {
            hear(number);
        } else if (m.state == 0) {
            wordsAndFacts(number);
            bill(number, 23);
        } else if ((m.state == 3 || m.state == 5) && !m.jurors.isEmpty() && random.nextInt(4) == 0) {
            int party = isPlea(m) && random.nextBoolean() ? m.suer : m.accused;
            int juror = m.jurors.get(random.nextInt(m.jurors.size()));
            kin(random.nextBoolean() ? juror : party, party, 1 + upTo(2));
            kin(juror, party, upTo(2));
            kin(party, juror, 0);
        } else if (m.state == 7 && random.nextInt(3) > 0) {
            settle(m.deed, random.nextBoolean());
        } else if (m.state == 8) {
            see(m.accused, random.nextInt(4) == 0 ? 1 - m.banShire : m.banShire);
        } else if (m.state == 4 || m.state == 6 && random.nextBoolean()) {
            undo(number);
        } else if (m.state == 3 || m.state == 5) {
            judgement(number);
        } else {
            beginCrown();
        }
    }

    private void gaolsAndBonds() {
        int which = random.nextInt(8);
        if (which < 3) {
            prisoners();
        } else if (which < 6) {
            bondOrSight();
        } else if (which == 6) {
            pass();
        } else {
            death();
        }
    }

    private void person(int shire, int hundred) {
        boolean fits = people.size() < 120;
        due("person", r -> r.person(shire, hundred), fits ? people.size() : Clerk.FULL);
        people.add(new int[] {shire, hundred});
    }

    private void land(int p, int pounds, int from) {
        if (isThere(p) && from <= 399) {
            tellings.add(new Telling('l', p, 0, pounds, from, clock));
            due("land", r -> r.land(p, pounds, from), tellings.size());
        } else {
            due("land", r -> r.land(p, pounds, from), Clerk.RANGE);
        }
    }

    private void death() {
        int p = one(people.size());
        if (random.nextInt(3) == 0 && isThere(p)) {
            int from = Math.min(upTo(clock + 5), 399);
            tellings.add(new Telling('d', p, 0, 0, from, clock));
            due("dead", r -> r.dead(p, from), tellings.size());
        }
    }

    private void kin(int p, int q, int degree) {
        if (!isThere(p) || !isThere(q) || p == q) {
            due("kin", r -> r.kin(p, q, degree), Clerk.RANGE);
            return;
        }
        tellings.add(new Telling('k', p, q, degree, 0, clock));
        int begun = 0;
        for (Case m : cases) {
            boolean barred = false;
            for (int j : m.jurors) {
                int other = j == p ? q : j == q ? p : Clerk.NONE;
                barred |= other != Clerk.NONE && (other == m.accused || other == m.suer);
            }
            if (barred && (m.state == 3 || m.state == 5) && degree > 0 && degree <= tells(9, m) && tells(13, m) == 1) {
                again(m);
                begun++;
            }
        }
        due("kin", r -> r.kin(p, q, degree), begun);
    }

    private void pass() {
        int n = random.nextInt(20) == 0 ? 101 - upTo(101) * upTo(1) : 1 + upTo(3);
        boolean fits = n >= 1 && n <= 100 && clock + n <= 399;
        clock += fits ? n : 0;
        due("pass", r -> r.pass(n), fits ? clock : Clerk.RANGE);
    }

    private void enact() {
        int latest = acts.isEmpty() ? 0 : acts.get(acts.size() - 1).day;
        boolean isFirst = acts.isEmpty();
        int day = isFirst || random.nextInt(3) > 0 ? latest : Math.min(latest + upTo(6), 399);
        int shires = isFirst || random.nextInt(4) > 0 ? 63 : 1 + upTo(62);
        List<Clause> clauses = new ArrayList<>();
        StringBuilder text = new StringBuilder();
        for (String deed : DEEDS) {
            for (int kind = 0; kind < 7; kind++) {
                if (random.nextInt(isFirst ? 2 : 6) == 0 || isFirst && kind == 0) {
                    clauses.add(clauseOfDeed(kind, deed, text));
                }
            }
        }
        String[] names = {"jury", "land", "kin", "challenge", "hundred", "bill"};
        int[] most = {2, 60, 4, 3, 1, 13};
        for (int i = 0; i < names.length; i++) {
            if (random.nextInt(isFirst ? 2 : 8) == 0 || isFirst && i == 0) {
                int n = i == 0 ? 1 + upTo(most[i] - 1) : upTo(most[i]);
                text.append(names[i]).append(' ').append(n).append(';');
                clauses.add(new Clause(7 + i, null, n, null));
            }
        }
        if (random.nextInt(isFirst ? 2 : 6) == 0) {
            int isVoid = random.nextInt(4) == 0 ? 0 : 1;
            text.append(isVoid == 1 ? "void;" : "stand;");
            clauses.add(new Clause(13, null, isVoid, null));
        }
        if (!isFirst && random.nextInt(5) == 0) {
            String deed = random.nextBoolean() ? DEEDS[upTo(1)] : null;
            int struck = random.nextInt(acts.size());
            text.append("strike ").append(struck).append(deed == null ? "" : " " + deed).append(';');
            clauses.add(new Clause(14, deed, struck, null));
        }
        feed(text.toString());
        boolean fits = acts.size() < 30;
        due("act " + text, r -> r.act(day, shires), fits ? acts.size() : Clerk.FULL);
        if (fits) {
            acts.add(new Act(day, shires, clauses));
        }
    }

    private Clause clauseOfDeed(int kind, String deed, StringBuilder text) {
        List<String> words = List.of("w", "v", "w").subList(0, 1 + upTo(2));
        boolean isRefused = kind == 4 && random.nextInt(4) == 0;
        int number = kind == 0 ? upTo(CONDITIONS.length - 1) : kind == 1 ? words.size() : kind == 3 ? upTo(99) : isRefused ? 0 : 1;
        String[] names = {"deed", "words", "death", "fine", isRefused ? "refuse" : "clergy", "keep", "mend"};
        text.append(names[kind]).append(' ').append(deed);
        text.append(kind == 0 ? "=" + CONDITIONS[number] : kind == 1 ? " " + String.join(" ", words) : kind == 3 ? " " + number : "");
        text.append(';');
        return new Clause(kind, deed, number, words);
    }

    private void begin(int suer, int accused, int pounds) {
        Case m = new Case();
        m.deed = DEEDS[upTo(1)];
        m.suer = suer;
        m.accused = accused;
        m.shire = random.nextInt(5) == 0 ? 1 : 0;
        m.hundred = upTo(1);
        m.day = upTo(Math.min(clock, 8));
        m.pounds = pounds;
        feed(m.deed);
        int want = cases.size() >= 100 ? Clerk.FULL : cases.size();
        if (suer == Clerk.NONE) {
            due("crown", r -> r.crown(accused, m.shire, m.hundred, m.day), want);
        } else {
            due("plea", r -> r.plea(suer, accused, m.shire, m.hundred, m.day, pounds), want);
        }
        if (want >= 0) {
            cases.add(m);
            change(m, 0);
        }
    }

    private void beginCrown() {
        begin(Clerk.NONE, random.nextInt(Math.min(people.size(), 3)), 0);
        int m = cases.size() - 1;
        if (random.nextInt(6) > 0) {
            wordsAndFacts(m);
            bill(m, 23);
            fillJury(m);
        }
    }

    private void beginPlea() {
        int p = random.nextInt(people.size());
        int q = random.nextInt(people.size());
        if (p != q) {
            begin(p, q, 1 + upTo(99));
        }
    }

    /** FACTS that mostly make the deed, where THE LAW has it. */
    private Map<String, Integer> someFacts(Case m, StringBuilder text) {
        Map<String, Integer> facts = new LinkedHashMap<>();
        int tries = m == null || random.nextInt(6) == 0 ? 1 : 20;
        for (int i = 0; i < tries && (i == 0 || !isMade(m, facts)); i++) {
            facts.clear();
            for (String name : new String[] {"a", "b", "c"}) {
                if (random.nextInt(3) > 0) {
                    facts.put(name, upTo(3));
                }
            }
        }
        for (Map.Entry<String, Integer> fact : facts.entrySet()) {
            boolean isPlain = fact.getValue() == 1 && random.nextBoolean();
            text.append(fact.getKey()).append(isPlain ? "" : "=" + fact.getValue()).append(';');
        }
        return facts;
    }

    private void wordsAndFacts(int number) {
        Case m = crownAt(number);
        int refused = m == null ? Clerk.RANGE : m.state != 0 ? Clerk.STATE : 0;
        List<String> words = List.of("w", "z", "v", "w").subList(random.nextInt(6) == 0 ? 1 : 0, 4 - upTo(1) * upTo(1));
        feed(String.join(" ", words));
        due("words", r -> r.words(number), refused != 0 ? refused : words.size());
        StringBuilder text = new StringBuilder();
        Map<String, Integer> facts = someFacts(m, text);
        feed(text.toString());
        due("allege", r -> r.allege(number), refused != 0 ? refused : facts.size());
        if (refused == 0) {
            m.words = words;
            m.alleged = facts;
        }
    }

    private void bill(int number, int votes) {
        Case m = crownAt(number);
        int want = m == null || votes > 23 ? Clerk.RANGE : m.state != 0 ? Clerk.STATE
                : badness(m) == 0 && votes >= tells(12, m) ? 2 : 1;
        due("bill", r -> r.bill(number, votes), want);
        if (want >= 0) {
            change(m, want);
        }
    }

    private void witness(int number, int p) {
        Case m = at(number);
        int want = m == null || !isThere(p) ? Clerk.RANGE
                : !isOpen(m) || m.witnesses.contains(p) || m.jurors.contains(p) || p == m.suer || p == m.accused ? Clerk.STATE
                : m.witnesses.size() == 4 ? Clerk.FULL : m.witnesses.size() + 1;
        due("witness", r -> r.witness(number, p), want);
        if (want >= 0) {
            m.witnesses.add(p);
        }
    }

    private void fillJury(int number) {
        for (int i = 0; i < 3; i++) {
            Case m = at(number);
            int size = m == null ? 0 : drawable(m).size();
            int which = random.nextInt(20) == 0 ? size - upTo(1) * (size + 1) : random.nextInt(Math.max(1, size));
            int want = m == null ? Clerk.RANGE : !wantsJurors(m) ? Clerk.STATE : m.jurors.size() >= tells(7, m) ? Clerk.FULL
                    : which < 0 || which >= size ? Clerk.RANGE : drawable(m).get(which);
            due("list", r -> r.list(number), m == null ? Clerk.RANGE : !wantsJurors(m) ? Clerk.STATE : size);
            due("draw", r -> r.draw(number, which), want);
            if (want < 0) {
                return;
            }
            m.jurors.add(want);
        }
    }

    private void challenge(int number) {
        Case m = at(number);
        int p = m == null || m.jurors.isEmpty() || random.nextInt(9) == 0 ? one(people.size())
                : m.jurors.get(random.nextInt(m.jurors.size()));
        int want = m == null || !m.jurors.contains(p) ? Clerk.RANGE
                : !wantsJurors(m) || m.challenged.size() >= tells(10, m) ? Clerk.STATE : m.challenged.size() + 1;
        due("challenge", r -> r.challenge(number, p), want);
        if (want >= 0) {
            m.jurors.remove((Integer) p);
            m.challenged.add(p);
        }
    }

    private void hear(int number) {
        fillJury(number);
        Case m = at(number);
        StringBuilder text = new StringBuilder();
        Map<String, Integer> facts = someFacts(m, text);
        int want = m == null ? Clerk.RANGE : !wantsJurors(m) || !isFull(m) ? Clerk.STATE
                : !isMade(m, facts) ? 4 : isPlea(m) ? 5 : isSettledAsNone(m.deed) ? 4 : 3;
        feed(text.toString());
        due("hear", r -> r.hear(number), want);
        if (want >= 0) {
            m.found = facts;
            m.heard = clock;
            change(m, want);
        }
    }

    private boolean isSettledAsNone(String deed) {
        boolean none = false;
        for (Object[] s : settled) {
            none = s[0].equals(deed) ? !(Boolean) s[1] : none;
        }
        return none;
    }

    private void judgement(int number) {
        Case m = crownAt(number);
        boolean isGuilty = m != null && m.state == 3;
        boolean isToDie = m != null && m.state == 5 && m.death;
        int which = random.nextInt(6) == 0 ? upTo(3) : isToDie ? 2 + upTo(1) : upTo(1);
        if (which == 0) {
            boolean can = isGuilty && tells(5, m) == 1;
            due("keep", r -> r.keep(number), m == null ? Clerk.RANGE : can ? 1 : Clerk.STATE);
            if (can) {
                change(m, 7);
            }
        } else if (which == 1) {
            if (isGuilty) {
                sentence(m);
            }
            due("judge", r -> r.judge(number), m == null ? Clerk.RANGE : !isGuilty ? Clerk.STATE : m.death ? 1 : 0);
        } else if (which == 2) {
            boolean can = isToDie && tells(4, m) == 1
                    && cases.stream().noneMatch(k -> k.state == 6 && k.accused == m.accused);
            due("benefit", r -> r.benefit(number), m == null ? Clerk.RANGE : can ? 1 : Clerk.STATE);
            if (can) {
                m.death = false;
                change(m, 6);
            }
        } else {
            pardon(number, m);
        }
    }

    private void pardon(int number, Case m) {
        int shire = random.nextInt(15) == 0 ? 6 : upTo(1);
        int to = clock + upTo(9) - upTo(1);
        boolean inRange = m != null && shire < 6 && to >= clock && to <= 399;
        boolean can = inRange && m.state == 5 && m.death;
        due("pardon", r -> r.pardon(number, shire, to), !inRange ? Clerk.RANGE : can ? 1 : Clerk.STATE);
        if (can) {
            m.death = false;
            m.banShire = shire;
            m.banTo = to;
            change(m, 8);
        }
    }

    private void settle(String deed, boolean as) {
        feed(deed);
        if (settled.size() == 40) {
            due("settle", r -> r.settle(as), Clerk.FULL);
            return;
        }
        settled.add(new Object[] {deed, as});
        int kept = 0;
        for (Case m : cases) {
            if (m.state == 7 && m.deed.equals(deed)) {
                kept++;
                if (as) {
                    sentence(m);
                } else {
                    m.byJudges = true;
                    change(m, 4);
                }
            }
        }
        due("settle", r -> r.settle(as), kept);
    }

    private void undo(int number) {
        Case m = at(number);
        int want = m == null ? Clerk.RANGE : List.of(4, 5, 6).contains(m.state) ? again(m) : Clerk.STATE;
        due("undo", r -> r.undo(number), want);
    }

    private int gaolOf(int p) {
        return stays.stream().filter(s -> s.p == p && s.out == Clerk.NONE).map(Stay::shire).findFirst().orElse(Clerk.NONE);
    }

    private int prisonersOf(int shire) {
        return (int) stays.stream().filter(s -> s.shire == shire && s.out == Clerk.NONE).count();
    }

    private void free(int p) {
        stays.replaceAll(s -> s.p == p && s.out == Clerk.NONE ? new Stay(p, s.shire, s.in, clock) : s);
    }

    private void prisoners() {
        int p = one(people.size());
        int shire = random.nextInt(15) == 0 ? 6 : upTo(1);
        switch (random.nextInt(3)) {
            case 0:
                int want = !isThere(p) || shire > 5 ? Clerk.RANGE : gaolOf(p) != Clerk.NONE ? Clerk.STATE : prisonersOf(shire) + 1;
                due("commit", r -> r.commit(p, shire), want);
                if (want >= 0) {
                    stays.add(new Stay(p, shire, clock, Clerk.NONE));
                }
                break;
            case 1:
                due("bail", r -> r.bail(p), !isThere(p) ? Clerk.RANGE : gaolOf(p) == Clerk.NONE ? Clerk.STATE : gaolOf(p));
                free(p);
                break;
            default:
                due("deliver", r -> r.deliver(shire), shire > 5 ? Clerk.RANGE : deliver(shire));
                break;
        }
    }

    private int deliver(int shire) {
        left.clear();
        int freed = 0;
        for (int p = 0; p < people.size(); p++) {
            if (gaolOf(p) == shire) {
                int by = Clerk.NONE;
                for (int m = cases.size() - 1; m >= 0; m--) {
                    Case k = cases.get(m);
                    boolean holds = isOpen(k) || k.state == 5 && k.death || k.state == 9;
                    by = holds && !isPlea(k) && k.accused == p ? m : by;
                }
                if (by == Clerk.NONE) {
                    free(p);
                    freed++;
                } else {
                    left.add(new int[] {p, by});
                }
            }
        }
        return freed;
    }

    private void bondOrSight() {
        int p = one(people.size());
        int shire = random.nextInt(15) == 0 ? 6 : upTo(1);
        if (random.nextBoolean()) {
            Bond b = new Bond();
            b.p = p;
            b.shire = shire;
            b.from = Math.max(0, clock + upTo(8) - 4);
            b.to = b.from + upTo(6) - (random.nextInt(9) == 0 ? 1 : 0);
            b.pounds = random.nextInt(15) == 0 ? 10000 * upTo(1) : 1 + upTo(50);
            boolean inRange = isThere(p) && shire < 6 && b.from <= 399 && b.to <= 399 && b.to >= b.from && b.to >= clock
                    && b.pounds >= 1 && b.pounds <= 9999;
            int want = !inRange ? Clerk.RANGE : bonds.size() == 80 ? Clerk.FULL : bonds.size();
            due("bond", r -> r.bond(p, shire, b.from, b.to, b.pounds), want);
            if (want >= 0) {
                bonds.add(b);
            }
        } else if (!bonds.isEmpty() && random.nextBoolean()) {
            Bond b = bonds.get(random.nextInt(bonds.size()));
            see(b.p, b.shire);
        } else {
            see(p, shire);
        }
    }

    private void see(int p, int shire) {
        boolean inRange = isThere(p) && shire < 6;
        int n = 0;
        for (Bond b : bonds) {
            if (inRange && !b.met && b.p == p && b.shire == shire && b.from <= clock && clock <= b.to) {
                b.met = true;
                n++;
            }
        }
        for (Case m : cases) {
            if (inRange && m.state == 8 && m.accused == p && m.banShire == shire && clock <= m.banTo) {
                change(m, 9);
                m.death = true;
                n += 100;
            }
        }
        due("seen", r -> r.seen(p, shire), inRange ? n : Clerk.RANGE);
    }

    private void putRight(int number, int state, int from) {
        Case m = at(number);
        int want = m == null || state > 9 || from > clock ? Clerk.RANGE : m.rightings == 40 ? Clerk.FULL : m.rightings + 1;
        due("putRight", r -> r.putRight(number, state, from), want);
        if (want >= 0) {
            m.rightings++;
            m.changes.add(new Change(state, from, clock));
        }
    }

    // ---- everything that can be asked; asked of like objects, so that none is asked more than it has calls

    private void compareAll() {
        callsOfAsker = MOST_CALLS;
        for (int number = 0; number < cases.size(); number++) {
            compareCase(number, cases.get(number));
        }
        for (int p = 0; p < people.size(); p++) {
            comparePerson(p);
        }
        for (int b = 0; b < bonds.size(); b++) {
            compareBond(b, bonds.get(b));
        }
        for (int i = 0; i <= left.size(); i++) {
            for (int what = 0; what < 2; what++) {
                ask("left", asker().left(i, what), i < left.size() ? left.get(i)[what] : Clerk.NONE);
            }
        }
        compareCounts();
    }

    private int bondState(Bond b) {
        return b.met ? 1 : clock <= b.to ? 0 : isDead(b.p, b.to, b.to) ? 3 : 2;
    }

    private void compareBond(int number, Bond b) {
        int[] want = {b.p, b.shire, b.from, b.to, b.pounds, bondState(b), Clerk.NONE};
        for (int what = 0; what < want.length; what++) {
            ask("bonded " + number + " what " + what, asker().bonded(number, what), want[what]);
        }
    }

    private void comparePerson(int p) {
        ask("in gaol " + p, asker().prisoner(p, 0), gaolOf(p));
        int waited = 0;
        for (Stay s : stays) {
            waited += s.p == p ? (s.out == Clerk.NONE ? clock : s.out) - s.in : 0;
        }
        ask("waited " + p, asker().prisoner(p, 1), waited);
        int day = Math.min(upTo(clock + 4), 399);
        int known = Math.min(upTo(clock + 2), 399);
        ask("landOn " + p, asker().landOn(p, day, known), landFor(p, day, known));
        ask("deadOn " + p, asker().deadOn(p, day, known), isDead(p, day, known) ? 1 : 0);
        int q = random.nextInt(people.size());
        ask("kinOn " + p, asker().kinOn(p, q, known), p == q ? Clerk.RANGE : kinFor(p, q, known));
    }

    private void compareCase(int number, Case m) {
        int[] want = {isPlea(m) ? 1 : 0, m.suer, m.accused, m.shire, m.hundred, m.day, m.pounds, m.state, m.death ? 1 : 0,
            m.fine, m.jurors.size(), m.witnesses.size(), m.challenged.size(), 1, m.heard, Clerk.ABSENT};
        for (int what = 0; what < want.length; what++) {
            ask("matter " + number + " what " + what, asker().matter(number, what), want[what]);
        }
        for (int i = 0; i <= m.jurors.size(); i++) {
            ask("juror " + i + " of " + number, asker().juror(number, i), i < m.jurors.size() ? m.jurors.get(i) : Clerk.NONE);
        }
        ask("bad " + number, asker().bad(number), isPlea(m) ? Clerk.RANGE : badness(m));
        ask("full " + number, asker().full(number), isFull(m) ? 1 : 0);
        ask("lacks " + number, asker().lacks(number), Math.max(0, tells(11, m) - ofHundred(m)));
        ask("check " + number, asker().check(number), check(m));
        int p = random.nextInt(people.size());
        ask("may " + number, asker().may(number, p), may(m, p, clock, clock) ? 1 : 0);
        for (int i = 0; i < 4; i++) {
            int day = i == 0 ? clock : Math.min(upTo(clock + 1), 399);
            int known = i < 2 ? clock : Math.min(upTo(clock + 1), 399);
            ask("stateOn " + number, asker().stateOn(number, day, known), stateOn(m, day, known));
        }
    }

    private static int stateOn(Case m, int day, int known) {
        Change best = null;
        for (Change k : m.changes) {
            best = k.known <= known && k.from <= day && (best == null || k.from >= best.from) ? k : best;
        }
        return best == null ? Clerk.NONE : best.state;
    }

    private int check(Case m) {
        if (m.state < 3 || m.state == 4 && m.byJudges) {
            return Clerk.STATE;
        }
        if (!isPlea(m) && badness(m) != 0) {
            return 1;
        }
        for (int p : m.jurors) {
            if (!may(m, p, m.heard, clock)) {
                return 2;
            }
        }
        boolean foundGuilty = m.state != 4;
        return isMade(m, m.found) != foundGuilty ? 3 : 0;
    }

    private void compareCounts() {
        int chest = 0;
        for (Case m : cases) {
            chest += m.fine;
        }
        for (Bond b : bonds) {
            chest += bondState(b) == 2 ? b.pounds : 0;
        }
        int[] want = {clock, people.size(), tellings.size(), acts.size(), cases.size(), bonds.size(), chest, 0, 0, Clerk.NONE};
        for (int what = 0; what < want.length; what++) {
            ask("count " + what, asker().count(what), want[what]);
        }
        for (int s = 0; s < 6; s++) {
            ask("prisoners of " + s, asker().count(10 + s), prisonersOf(s));
        }
        for (int k = 0; k < 10; k++) {
            int state = k;
            ask("matters of state " + k, asker().count(20 + k), (int) cases.stream().filter(m -> m.state == state).count());
        }
    }
}
