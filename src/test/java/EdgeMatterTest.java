import java.util.function.Supplier;

/** Boundary cases of MATTERS, INDICTMENTS and BILLS: Terms III, promises 21 to 28. */
public final class EdgeMatterTest extends Edges {
    private static final int BLANKS = 0x20202020;
    private static final String TWENTY = "a b c d e f g h i j k l m n o p q r s t";

    public static void main(String[] args) {
        new EdgeMatterTest().test();
    }

    @Override
    void sentences() {
        in("III");
        edge("MATTERS, at most 100, numbered from 0 as they begin", this::mostMatters);
        edge("on a day (not behind the CLOCK's)", this::dayOfTheDeed);
        edge("for pounds 1 .. 9999", () -> within("pounds", 1, 9999, RANGE, n -> say(court(), "t").plea(0, 1, 0, 0, 0, n)));
        edge("THE LAW of a MATTER is that of its deed's day and SHIRE (of all KINDS)", this::lawOfTheDeed);
        edge("OPEN: 0, 2, 3, 7", this::openStates);
        edge("A PLEA has only 0, 4 and 5", this::statesOfAPlea);
        edge("WORDS (at most 20 on THE TAPE, blanks between)", this::mostWords);
        edge("told anew while it is BEGUN", this::toldAnew);
        edge("BAD: 100 if it has none (of either kind told)", this::nothingTold);
        edge("200 there is no such deed in THE LAW", this::noSuchDeed);
        edge("300 and i: i is the first of the words of THE LAW that isn't had", this::wordNotHad);
        edge("when each is looked for behind the one ahead of it (the first such place)", this::wordsInOrder);
        edge("400 and what LACKS: the alleged FACTS don't make the deed", this::factsLack);
        edge("0: GOOD (asked in this order)", this::orderOfBadness);
        edge("the fewest words that must be put in for all of them to be had in their order are put in", this::fewest);
        edge("THE LAW's next word is put in, if that still lets the fewest be put in; else the row's next one comes", this::weave);
        edge("behind the end of one the rest of the other", this::restOfTheOther);
        edge("A BILL is found by votes for (0 .. 23)", () -> within("votes", 0, 23, RANGE, votes -> indicted("bill 5;").bill(0, votes)));
        edge("if the INDICTMENT is GOOD and votes aren't below bill it is TRUE, else NO BILL", this::bills);
        beginnings();
        indictments();
    }

    private void beginnings() {
        in("21");
        edge("RANGE: no such one, SHIRE, HUNDRED, day (0 .. the CLOCK's)", this::wrongCrowns);
        edge("NONE: no W is on it", this::wordlessCrowns);
        edge("FULL", this::crownsFull);
        in("22");
        edge("of one against another (unlike)", this::pleaAgainstOneself);
        edge("for pounds, likewise", this::wrongPleas);
    }

    private void indictments() {
        in("23");
        edge("RANGE: no CROWN MATTER", () -> noCrown("w", (x, m) -> x.words(m)));
        edge("STATE: it isn't BEGUN", () -> notBegun("w", x -> x.words(0)));
        edge("NONE: they are none (1 .. 20)", this::noWords);
        in("24");
        edge("how many; RANGE, STATE, NONE likewise", this::allegations);
        in("25");
        edge("0: GOOD; RANGE", () -> noCrown("", (x, m) -> x.bad(m)));
        in("26");
        edge("how many words were put in (0: none lacked)", this::nonePutIn);
        edge("RANGE", () -> noCrown("", (x, m) -> x.mend(m)));
        edge("STATE: the MATTER isn't BEGUN, no WORDS were told", this::mendState);
        edge("NONE: THE LAW has no mend", this::noMend);
        edge("FULL: it would have more than 28 WORDS then", this::tooManyMended);
        in("27");
        edge("RANGE: no CROWN MATTER, votes", this::wrongBills);
        edge("STATE: it isn't BEGUN", () -> notBegun("", x -> x.bill(0, 0)));
        in("28");
        edge("1: who sues (NONE)", this::whoSues);
        edge("6: pounds (0)", this::poundsOfACrown);
        edge("9: fine that was paid (0)", this::untouched);
        edge("14: the day on which it was HEARD (NONE)", this::heardOn);
        edge("-9 when there is none such", this::noSuchMatter);
    }

    private interface OfMatter {
        int ask(AssizeRide x, int m);
    }

    private interface OfOne {
        int ask(AssizeRide x);
    }

    private static AssizeRide court() {
        AssizeRide x = Clerk.under("deed t = a; mend t; keep t; jury 1; hundred 0; bill 0; land 0;");
        Clerk.settle(x, 4);
        return x;
    }

    private static AssizeRide begun() {
        AssizeRide x = court();
        say(x, "t").crown(0, 0, 0, 0);
        return x;
    }

    private static AssizeRide indicted(String law) {
        AssizeRide x = Clerk.under("deed t = a; " + law);
        Clerk.settle(x, 4);
        say(x, "t").crown(0, 0, 0, 0);
        say(x, "w").words(0);
        say(x, "a;").allege(0);
        return x;
    }

    private static int beginPlainly(AssizeRide x) {
        x.feed(0x74202020, BLANKS, BLANKS, BLANKS, BLANKS);
        return x.crown(0, 0, 0, 0);
    }

    private static AssizeRide hundredMatters() {
        AssizeRide x = court();
        for (int m = 0; m < 100; m++) {
            beginPlainly(x);
        }
        return x;
    }

    private void mostMatters() {
        AssizeRide x = court();
        for (int m = 0; m < 99; m++) {
            due("matter", beginPlainly(x), m);
        }
        due("the 100th", say(x, "t").plea(0, 1, 5, 9, 0, 9999), 99);
        due("the 101st", beginPlainly(x), FULL);
        due("a plea, the 101st", say(x, "t").plea(0, 1, 0, 0, 0, 1), FULL);
        due("matters", x.count(4), 100);
        due("the 100th is told of", x.matter(99, 6), 9999);
        due("there is no 101st", x.matter(100, 0), ABSENT);
        due("the 100th is heard", x.witness(99, 2), 1);
        due("the 100th is put right", x.putRight(99, 9, 0), 1);
    }

    private static AssizeRide on(int day) {
        AssizeRide x = court();
        for (int rest = day; rest > 0; rest -= 100) {
            x.pass(Math.min(rest, 100));
        }
        return x;
    }

    private void dayOfTheDeed() {
        for (int today : new int[] {0, 7, 399}) {
            within("crown's day on " + today, 0, today, RANGE, day -> say(on(today), "t").crown(0, 0, 0, day));
            within("plea's day on " + today, 0, today, RANGE, day -> say(on(today), "t").plea(0, 1, 0, 0, day, 1));
        }
    }

    /** A MATTER of this deed's day and SHIRE, billed and heard on a later day. */
    private void lawOfTheDeed() {
        int[][] places = {{4, 0}, {5, 0}, {5, 1}};
        for (int[] place : places) {
            boolean isLater = place[0] == 5 && place[1] == 0;
            AssizeRide x = Clerk.under("deed t = a; words t v; fine t 3; jury 1; hundred 0; bill 0; land 0;");
            say(x, "deed t = b; words t w; death t; jury 2; bill 9;").act(5, 1);
            for (int p = 0; p < 8; p++) {
                x.person(p % 2, 0);
            }
            x.pass(9);
            say(x, "t").crown(0, place[1], 0, place[0]);
            say(x, "v").words(0);
            say(x, "a;").allege(0);
            due("bad by the words of the day", x.bad(0), isLater ? 300 : 0);
            say(x, "w").words(0);
            say(x, "b;").allege(0);
            due("bad by the words of the other", x.bad(0), isLater ? 0 : 300);
            say(x, "v w").words(0);
            say(x, "a; b;").allege(0);
            due("bill", x.bill(0, 8), isLater ? 1 : 2);
            if (!isLater) {
                x.draw(0, 0);
                due("a jury of one", x.full(0), 1);
                due("heard", say(x, "a;").hear(0), 3);
                due("judged", x.judge(0), 0);
            }
        }
    }

    /** A CROWN MATTER of person 0, brought to a STATE. */
    private static AssizeRide inState(int state) {
        AssizeRide x = Clerk.under("deed t = a; death t; clergy t; keep t; jury 1; hundred 0; bill 0; land 0;");
        Clerk.settle(x, 4);
        return Clerk.bringTo(state, x);
    }

    private void openStates() {
        for (int state = 0; state < 10; state++) {
            boolean isOpen = state == 0 || state == 2 || state == 3 || state == 7;
            due("a witness in state " + state, inState(state).witness(0, 3), isOpen ? 1 : STATE);
            due("one of state " + state, inState(state).count(20 + state), 1);
            AssizeRide x = inState(state);
            x.commit(0, 0);
            boolean isHeld = isOpen || state == 5 || state == 9;
            due("freed in state " + state, x.deliver(0), isHeld ? 0 : 1);
        }
    }

    private void statesOfAPlea() {
        AssizeRide x = court();
        say(x, "t").plea(0, 1, 0, 0, 0, 5);
        due("begun", x.matter(0, 7), 0);
        due("no bill", x.bill(0, 0), RANGE);
        x.draw(0, 0);
        due("judged", say(x, "a;").hear(0), 5);
        due("not to be judged", x.judge(0), RANGE);
        due("nor kept", x.keep(0), RANGE);
        due("no benefit", x.benefit(0), RANGE);
        due("no pardon", x.pardon(0, 0, 0), RANGE);
        due("begun again", x.undo(0), 0);
        x.draw(0, 0);
        due("not guilty", say(x, "").hear(0), 4);
        due("settled changes nothing", say(x, "t").settle(true), 0);
        due("begun again", x.undo(0), 0);
    }

    private void mostWords() {
        due("one", say(begun(), "w").words(0), 1);
        due("twenty", say(begun(), TWENTY).words(0), 20);
        due("21", say(begun(), TWENTY + " u").words(0), NONE);
        due("22", say(begun(), TWENTY + " u v").words(0), NONE);
        due("no blanks: one word", say(begun(), "abcdefghijkl").words(0), 1);
        due("lines between", say(begun(), "\na\n b \n").words(0), 2);
        AssizeRide x = indicted("words t t;");
        say(x, TWENTY).words(0);
        due("the twentieth is had", x.bad(0), 0);
    }

    private void toldAnew() {
        AssizeRide x = indicted("words t v;");
        due("the first ones", x.bad(0), 300);
        say(x, "v").words(0);
        due("the next ones", x.bad(0), 0);
        say(x, "w").words(0);
        due("those alone", x.bad(0), 300);
        say(x, "v").words(0);
        say(x, "b;").allege(0);
        due("facts anew", x.bad(0), 400);
        say(x, "").allege(0);
        due("none of them", x.bad(0), 400);
        say(x, "a;").allege(0);
        due("and anew", x.bad(0), 0);
        x.bill(0, 23);
        due("no words once there is a bill", say(x, "w").words(0), STATE);
        due("no facts either", say(x, "b;").allege(0), STATE);
        due("which stays good", x.bad(0), 0);
    }

    private void nothingTold() {
        AssizeRide x = begun();
        due("neither", x.bad(0), 100);
        say(x, "w").words(0);
        due("words alone", x.bad(0), 100);
        say(x, "a;").allege(0);
        due("both", x.bad(0), 0);
        AssizeRide y = begun();
        say(y, "a;").allege(0);
        due("facts alone", y.bad(0), 100);
        say(y, "3").words(0);
        due("words that were none", y.bad(0), 100);
        AssizeRide z = begun();
        say(z, "w").words(0);
        say(z, "a").allege(0);
        due("a row that was none", z.bad(0), 100);
        say(z, "").allege(0);
        due("an empty row is told", z.bad(0), 400);
    }

    private void noSuchDeed() {
        AssizeRide x = court();
        say(x, "u").crown(0, 0, 0, 0);
        say(x, "w").words(0);
        say(x, "a;").allege(0);
        due("of no act", x.bad(0), 200);
        say(x, "words u v; fine u 3;").act(0, 63);
        due("words alone are no deed", x.bad(0), 200);
        say(x, "deed u = a;").act(1, 63);
        due("of a later day", x.bad(0), 200);
        AssizeRide y = court();
        say(y, "u").crown(0, 3, 0, 0);
        say(y, "w").words(0);
        say(y, "a;").allege(0);
        say(y, "deed u = a;").act(0, 55);
        due("of other shires", y.bad(0), 200);
        say(y, "deed u = a;").act(0, 8);
        due("of its own", y.bad(0), 0);
    }

    private int bad(String law, String words) {
        AssizeRide x = indicted(law.isEmpty() ? "" : "words t " + law + ";");
        say(x, words).words(0);
        return x.bad(0);
    }

    private void wordNotHad() {
        due("no words in the law", bad("", "x"), 0);
        due("the first", bad("p", "x"), 300);
        due("the first of eight", bad("a b c d e f g h", "x"), 300);
        due("the last of eight", bad("a b c d e f g h", "a b c d e f g"), 307);
        due("none of eight", bad("a b c d e f g h", "a b c d e f g h"), 0);
        due("the second", bad("p q", "p"), 301);
    }

    private void wordsInOrder() {
        due("behind, not ahead", bad("p q", "q p"), 301);
        due("with others between", bad("p q", "x p x q x"), 0);
        due("the same twice", bad("p p", "p"), 301);
        due("the same twice, had", bad("p p", "p p"), 0);
        due("the first such place", bad("p q p", "p p q"), 302);
        due("at the twentieth", bad("t", TWENTY), 0);
    }

    private void factsLack() {
        int[] wants = {400, 419, 499, 0};
        String[] deeds = {"a or b", repeat("a and ", 19) + "b", "b and c", "not b"};
        for (int i = 0; i < wants.length; i++) {
            AssizeRide x = Clerk.under("deed t = " + deeds[i] + ";");
            x.person(0, 0);
            say(x, "t").crown(0, 0, 0, 0);
            say(x, "w").words(0);
            say(x, i == 1 ? "a;" : "d;").allege(0);
            due("bad of " + deeds[i], x.bad(0), wants[i]);
        }
    }

    private void orderOfBadness() {
        AssizeRide x = court();
        say(x, "u").crown(0, 0, 0, 0);
        due("none told, no deed", x.bad(0), 100);
        say(x, "w").words(0);
        say(x, "").allege(0);
        due("no deed", x.bad(0), 200);
        AssizeRide y = indicted("words t v;");
        say(y, "").allege(0);
        due("a word, and a fact", y.bad(0), 300);
        say(y, "v").words(0);
        due("a fact", y.bad(0), 400);
        say(y, "a;").allege(0);
        due("good", y.bad(0), 0);
    }

    private int mend(String law, String row) {
        AssizeRide x = indicted("mend t;" + (law.isEmpty() ? "" : "words t " + law + ";"));
        say(x, row).words(0);
        return x.mend(0);
    }

    private void fewest() {
        due("all had", mend("p q", "p x q"), 0);
        due("one of two", mend("p q", "q"), 1);
        due("all of eight", mend("a b c d e f g h", "x"), 8);
        due("in the wrong order", mend("p q", "q p"), 1);
        due("the most of them are kept", mend("a b c d", "d b c a"), 2);
        due("the same ones", mend("p p p", "p"), 2);
        due("not by the first place", mend("a b c", "b c a"), 1);
    }

    /** What stands behind mending is seen by a law of all these words. */
    private void woven(String law, String row, String want) {
        AssizeRide x = indicted("mend t; words t " + law + ";");
        say(x, row).words(0);
        due(law + " into " + row, x.mend(0), want.split(" ").length - row.split(" ").length);
        say(x, "words t " + want + "; mend t;").act(0, 63);
        due(law + " into " + row + " is " + want, x.bad(0), 0);
        due("and no more", x.mend(0), 0);
    }

    private void weave() {
        woven("p q", "x y", "p q x y");
        woven("p q", "x q", "p x q");
        woven("p q", "q x", "p q x");
        woven("p q", "q p", "p q p");
        woven("p", "x y p", "x y p");
        woven("a b c", "c a b", "c a b c");
        woven("p p", "x p y", "p x p y");
    }

    private void restOfTheOther() {
        woven("p q r", "p", "p q r");
        woven("p", "p x y", "p x y");
        woven("p q", "p x", "p q x");
        woven("p q r", "x p", "x p q r");
    }

    private void bills() {
        int[] laws = {0, 1, 12, 23};
        for (int law : laws) {
            due("votes as bill " + law, indicted("bill " + law + ";").bill(0, law), 2);
            due("all votes of bill " + law, indicted("bill " + law + ";").bill(0, 23), 2);
            if (law > 0) {
                due("one fewer than bill " + law, indicted("bill " + law + ";").bill(0, law - 1), 1);
                due("none of bill " + law, indicted("bill " + law + ";").bill(0, 0), 1);
            }
        }
        due("twelve without a clause", indicted("").bill(0, 12), 2);
        due("eleven without a clause", indicted("").bill(0, 11), 1);
        AssizeRide x = indicted("bill 0;");
        say(x, "b;").allege(0);
        due("bad, by all votes", x.bill(0, 23), 1);
        due("nothing told, by all votes", begun().bill(0, 23), 1);
    }

    private void wrongCrowns() {
        Supplier<AssizeRide> made = () -> say(on(7), "t");
        for (int p : new int[] {LEAST, -1, 4, MOST}) {
            refusedReader("crown of " + p, made, x -> x.crown(p, 0, 0, 0), RANGE);
        }
        for (int shire : new int[] {LEAST, -1, 6, MOST}) {
            refusedReader("crown in " + shire, made, x -> x.crown(0, shire, 0, 0), RANGE);
        }
        for (int hundred : new int[] {LEAST, -1, 10, MOST}) {
            refusedReader("crown in hundred " + hundred, made, x -> x.crown(0, 0, hundred, 0), RANGE);
        }
        for (int day : new int[] {LEAST, -1, 8, MOST}) {
            refusedReader("crown on " + day, made, x -> x.crown(0, 0, 0, day), RANGE);
        }
        due("the ends of all", made.get().crown(3, 5, 9, 7), 0);
        due("and the others", made.get().crown(0, 0, 0, 0), 0);
    }

    private void wordlessCrowns() {
        for (String text : new String[] {"", " \n ", "3", "t t", "t;", "abcdefghijklm", "?"}) {
            refusedReader("crown of " + text, () -> say(court(), text), x -> x.crown(0, 0, 0, 0), NONE);
            refusedReader("plea of " + text, () -> say(court(), text), x -> x.plea(0, 1, 0, 0, 0, 1), NONE);
        }
        due("RANGE ahead of it", say(court(), "").crown(0, 0, 0, 1), RANGE);
        due("twelve letters", say(court(), "abcdefghijkl").crown(0, 0, 0, 0), 0);
        due("blanks about it", say(court(), "\n t ").crown(0, 0, 0, 0), 0);
    }

    private void crownsFull() {
        refusedReader("the 101st", () -> say(hundredMatters(), "t"), x -> x.crown(0, 0, 0, 0), FULL);
        refusedReader("the 101st without a word", () -> say(hundredMatters(), ""), x -> x.crown(0, 0, 0, 0), NONE);
        refusedReader("the 101st of nobody", () -> say(hundredMatters(), "t"), x -> x.crown(4, 0, 0, 0), RANGE);
        refusedReader("a plea, the 101st", () -> say(hundredMatters(), "t"), x -> x.plea(0, 1, 0, 0, 0, 1), FULL);
        refusedReader("a plea, the 101st without a word", () -> say(hundredMatters(), "3"), x -> x.plea(0, 1, 0, 0, 0, 1), NONE);
        refusedReader("a plea, the 101st of no pounds", () -> say(hundredMatters(), "t"), x -> x.plea(0, 1, 0, 0, 0, 0), RANGE);
    }

    private void pleaAgainstOneself() {
        for (int p = 0; p < 4; p++) {
            int one = p;
            refusedReader("plea of " + p + " against itself", () -> say(court(), "t"), x -> x.plea(one, one, 0, 0, 0, 1), RANGE);
        }
        due("against the next", say(court(), "t").plea(2, 3, 0, 0, 0, 1), 0);
    }

    private void wrongPleas() {
        Supplier<AssizeRide> made = () -> say(on(7), "t");
        for (int p : new int[] {LEAST, -1, 4, MOST}) {
            refusedReader("plea of " + p, made, x -> x.plea(p, 0, 0, 0, 0, 1), RANGE);
            refusedReader("plea against " + p, made, x -> x.plea(0, p, 0, 0, 0, 1), RANGE);
        }
        for (int shire : new int[] {LEAST, -1, 6, MOST}) {
            refusedReader("plea in " + shire, made, x -> x.plea(0, 1, shire, 0, 0, 1), RANGE);
        }
        for (int hundred : new int[] {LEAST, -1, 10, MOST}) {
            refusedReader("plea in hundred " + hundred, made, x -> x.plea(0, 1, 0, hundred, 0, 1), RANGE);
        }
        for (int day : new int[] {LEAST, -1, 8, MOST}) {
            refusedReader("plea on " + day, made, x -> x.plea(0, 1, 0, 0, day, 1), RANGE);
        }
        for (int pounds : new int[] {LEAST, -1, 0, 10000, MOST}) {
            refusedReader("plea for " + pounds, made, x -> x.plea(0, 1, 0, 0, 0, pounds), RANGE);
        }
        due("RANGE ahead of no word", say(on(7), "").plea(0, 1, 0, 0, 0, 0), RANGE);
        due("the ends of all", made.get().plea(3, 2, 5, 9, 7, 9999), 0);
    }

    /** A PLEA, and numbers of no MATTER, are RANGE. */
    private void noCrown(String text, OfMatter call) {
        AssizeRide x = court();
        due("ahead of all matters", call.ask(say(x, text), 0), RANGE);
        for (int m : new int[] {LEAST, -1, 1, 2, MOST}) {
            AssizeRide y = begun();
            say(y, "t").plea(0, 1, 0, 0, 0, 1);
            due("of " + m, call.ask(say(y, text), m), RANGE);
        }
    }

    private void notBegun(String text, OfOne call) {
        for (int state = 0; state < 10; state++) {
            int now = state;
            if (state == 0) {
                due("in state 0", call.ask(say(inState(0), text)) == STATE ? 1 : 0, 0);
            } else if (text.isEmpty()) {
                refused("in state " + state, () -> inState(now), call::ask, STATE);
            } else {
                refusedReader("in state " + state, () -> say(inState(now), text), call::ask, STATE);
            }
        }
    }

    private void noWords() {
        for (String text : new String[] {"", " \n", "3", "w 3", "3 w", "w;", "w = 3", "abcdefghijklm", "w abcdefghijklm", TWENTY + " u", "W"}) {
            refusedReader("words of " + text, () -> say(begun(), text), x -> x.words(0), NONE);
        }
        due("STATE ahead of it", say(inState(2), "").words(0), STATE);
        due("RANGE ahead of it", say(begun(), "").words(1), RANGE);
    }

    private static String facts(int many) {
        StringBuilder row = new StringBuilder();
        for (int i = 0; i < many; i++) {
            row.append((char) ('a' + i)).append(";");
        }
        return row.toString();
    }

    private void allegations() {
        due("none", say(begun(), "").allege(0), 0);
        due("one", say(begun(), "a;").allege(0), 1);
        due("twenty", say(begun(), facts(20)).allege(0), 20);
        for (String text : new String[] {facts(21), "a;a;", "a", "a=10000;", "3;", ";"}) {
            refusedReader("allege of " + text, () -> say(indicted(""), text), x -> x.allege(0), NONE);
        }
        noCrown("a;", (x, m) -> x.allege(m));
        notBegun("a;", x -> x.allege(0));
        due("STATE ahead of NONE", say(inState(2), "a").allege(0), STATE);
        due("RANGE ahead of NONE", say(begun(), "a").allege(1), RANGE);
    }

    private void nonePutIn() {
        due("none lacked", mend("p q", "p q"), 0);
        due("no words in the law", mend("", "x"), 0);
        due("mended twice", twiceMended(), 0);
        due("one", mend("p", "x"), 1);
        due("eight", mend("a b c d e f g h", "x"), 8);
        AssizeRide x = indicted("words t p q; mend t;");
        due("two", x.mend(0), 2);
        beginPlainly(x);
        say(x, "q").words(1);
        say(x, "a;").allege(1);
        due("of another matter one", x.mend(1), 1);
        due("good", x.bad(1), 0);
        due("none more", x.mend(1), 0);
        say(x, "words t w;").act(0, 63);
        due("the other has its own words", x.bad(0), 0);
        due("which this one hasn't", x.bad(1), 300);
    }

    private static int twiceMended() {
        AssizeRide x = indicted("words t p q; mend t;");
        x.mend(0);
        return x.mend(0);
    }

    private void mendState() {
        due("no words told", begun().mend(0), STATE);
        AssizeRide x = begun();
        say(x, "a;").allege(0);
        due("facts alone", x.mend(0), STATE);
        AssizeRide y = begun();
        say(y, "3").words(0);
        due("words that were none", y.mend(0), STATE);
        say(y, "w").words(0);
        due("words told, facts not", y.mend(0), 0);
        notBegun("", z -> z.mend(0));
    }

    private void noMend() {
        refused("no mend", () -> indicted("words t v; mend u;"), x -> x.mend(0), NONE);
        due("without words it is STATE", noMendNoWords().mend(0), STATE);
        AssizeRide x = indicted("words t v;");
        say(x, "mend t;").act(1, 63);
        due("mend of a later day", x.mend(0), NONE);
    }

    private static AssizeRide noMendNoWords() {
        AssizeRide x = Clerk.under("deed t = a;");
        x.person(0, 0);
        say(x, "t").crown(0, 0, 0, 0);
        return x;
    }

    /** Twenty words, into which eight were put: 28 of them. */
    private static AssizeRide of28() {
        AssizeRide x = indicted("words t a b c d e f g h; mend t;");
        say(x, "x x x x x x x x x x x x x x x x x x x x").words(0);
        x.mend(0);
        return x;
    }

    private void tooManyMended() {
        AssizeRide x = indicted("words t a b c d e f g h; mend t;");
        say(x, "x x x x x x x x x x x x x x x x x x x x").words(0);
        due("eight to twenty", x.mend(0), 8);
        due("28 are good", x.bad(0), 0);
        due("none more", x.mend(0), 0);
        say(x, "words t y;").act(0, 63);
        refused("a 29th", () -> {
            AssizeRide y = of28();
            say(y, "words t y;").act(0, 63);
            return y;
        }, y -> y.mend(0), FULL);
        due("a 29th", x.mend(0), FULL);
        due("isn't there", x.bad(0), 300);
        say(x, "words t h x;").act(0, 63);
        due("28 stay mended", x.mend(0), 0);
        say(x, "refuse t; strike 0;").act(0, 63);
        due("NONE ahead of FULL", x.mend(0), NONE);
        upTo28("a b c d e f g h", "a x x x x x x x x x x x x x x x x x x x", 7);
        upTo28("a b c d e f g h", "x x x x x x x x x x x x x x x x x x x h", 7);
        upTo28("a b c d", "x x x x x x x x b x x x x x x x x x d x", 2);
        upTo28("a a", "x x x x x x x x x x x x x x x x x x x a", 1);
        upTo28("a", "a x x x x x x x x x x x x x x x x x x x", 0);
    }

    /** Twenty words have just those put in that lacked: as many more as there is room for go in, and not one beside. */
    private void upTo28(String law, String twenty, int lacked) {
        String[] more = {"p", "q", "r", "s", "t", "u", "v", "w", "y"};
        StringBuilder rest = new StringBuilder();
        for (int i = 0; i < 8 - lacked; i++) {
            rest.append(' ').append(more[i]);
        }
        AssizeRide x = indicted("words t " + law + "; mend t;");
        say(x, twenty).words(0);
        due(law + " into twenty", x.mend(0), lacked);
        if (lacked < 8) {
            say(x, "words t" + rest + ";").act(0, 63);
            due("up to 28", x.mend(0), 8 - lacked);
        }
        say(x, "words t y;").act(0, 63);
        due("and not one more", x.mend(0), FULL);
    }

    private void wrongBills() {
        noCrown("", (x, m) -> x.bill(m, 0));
        for (int votes : new int[] {LEAST, -1, 24, MOST}) {
            refused("votes " + votes, () -> indicted(""), x -> x.bill(0, votes), RANGE);
            due("ahead of STATE", inState(2).bill(0, votes), RANGE);
        }
    }

    private void whoSues() {
        AssizeRide x = begun();
        due("of a crown", x.matter(0, 1), NONE);
        say(x, "t").plea(0, 3, 0, 0, 0, 1);
        due("person 0", x.matter(1, 1), 0);
        due("is sued", x.matter(1, 2), 3);
        due("a crown", x.matter(0, 0), 0);
        due("a plea", x.matter(1, 0), 1);
    }

    private void poundsOfACrown() {
        AssizeRide x = begun();
        due("of a crown", x.matter(0, 6), 0);
        say(x, "t").plea(0, 3, 0, 0, 0, 1);
        due("of a plea", x.matter(1, 6), 1);
    }

    private void untouched() {
        AssizeRide x = begun();
        int[] want = {0, NONE, 0, 0, 0, 0, 0, 0, 0, 0, 0, 0, 0, 1, NONE};
        for (int what = 0; what < 15; what++) {
            due("what " + what + " as it begins", x.matter(0, what), want[what]);
        }
        due("to death no fine was paid", inState(5).matter(0, 9), 0);
    }

    private void heardOn() {
        due("not heard", inState(2).matter(0, 14), NONE);
        due("heard on day 0", inState(3).matter(0, 14), 0);
        AssizeRide x = inState(2);
        x.pass(100);
        x.draw(0, 0);
        say(x, "a").hear(0);
        due("a refused hearing", x.matter(0, 14), NONE);
        say(x, "a;").hear(0);
        due("on its day", x.matter(0, 14), 100);
    }

    private void noSuchMatter() {
        due("ahead of all", court().matter(0, 0), ABSENT);
        within("matter", 0, 1, ABSENT, m -> {
            AssizeRide x = begun();
            beginPlainly(x);
            return x.matter(m, 0);
        });
        within("what", 0, 14, ABSENT, what -> begun().matter(0, what));
        within("matter of a hundred", 0, 99, ABSENT, m -> hundredMatters().matter(m, 7));
    }
}
