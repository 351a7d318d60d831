import java.util.function.Supplier;

/** Boundary cases of judgements, BENEFIT, points KEPT and SETTLED, PARDONS and what is UNDONE: Terms IV, promises 38 to 43. */
public final class EdgeJudgementTest extends Edges {
    public static void main(String[] args) {
        new EdgeJudgementTest().test();
    }

    @Override
    void sentences() {
        in("IV");
        edge("JUDGED: GUILTY: to death, if THE LAW has it, else to the fine, that is paid to the CROWN's chest", this::deathOrFine);
        edge("BENEFIT: of one to die, once in a life: if THE LAW has clergy: no death", this::onceInALife);
        edge("KEPT: GUILTY, if THE LAW has keep", this::keptByLaw);
        edge("as one or none, from the CLOCK's day on: all KEPT MATTERS of it, by number: JUDGED, or NOT GUILTY", this::settledKept);
        edge("(The latest word on W holds for HEARD.)", this::latestWord);
        edge("not to be in a SHIRE up to a day; seen there by then they are BROKEN: to die again", this::seenByThen);
        edge("UNDONE: JUDGED, BENEFIT or NOT GUILTY of a CROWN MATTER, or of a PLEA: it is TRUE BILL (BEGUN) again", this::undoneStates);
        edge("without jurors, challenges (who was CHALLENGED may be DRAWN again) and FACTS", this::undoneJury);
        edge("a fine is given back, pounds are owed no more; who had BENEFIT by it hasn't", this::givenBack);
        in("38");
        edge("1 if it is to death, else 0; RANGE", () -> noCrown(x -> x.judge(0), (x, m) -> x.judge(m)));
        edge("STATE: it isn't GUILTY", () -> onlyIn(x -> x.judge(0), 3));
        in("39");
        edge("BENEFIT: 1; RANGE", () -> noCrown(x -> x.benefit(0), (x, m) -> x.benefit(m)));
        edge("STATE: it isn't JUDGED to death, the accused had it, or THE LAW has no clergy", this::benefitStates);
        in("40");
        edge("KEPT: 1; RANGE", () -> noCrown(x -> x.keep(0), (x, m) -> x.keep(m)));
        edge("STATE: it isn't GUILTY, or THE LAW has no keep", this::keepStates);
        in("41");
        edge("how many MATTERS were KEPT on it", this::howManyKept);
        edge("NONE: no W is on it", this::wordlessSettle);
        edge("FULL: the 41st", this::settledFull);
        in("42");
        edge("not to be in a SHIRE up to a day (not ahead of the CLOCK's)", this::pardonDays);
        edge("RANGE: also: no such SHIRE, day", this::wrongPardons);
        edge("STATE: it isn't JUDGED to death", this::pardonStates);
        in("43");
        edge("the STATE then; RANGE: no such", this::wrongUndo);
        edge("STATE: it is none of those", this::undoStates);
    }

    private interface OfOne {
        int ask(AssizeRide x);
    }

    private interface OfMatter {
        int ask(AssizeRide x, int m);
    }

    private static final String DEATH = "death t; clergy t; keep t;";

    private static AssizeRide court(String law) {
        AssizeRide x = Clerk.under("deed t = a; bill 0; jury 1; hundred 0; land 0; challenge 12; " + law);
        Clerk.settle(x, 4);
        return x;
    }

    /** MATTER 0 against person 0, found by these FACTS. */
    private static AssizeRide tried(String law, String facts) {
        AssizeRide x = court(law);
        Clerk.indict(x, "t", "w", "a;");
        Clerk.hear(x, 0, 1, facts);
        return x;
    }

    private static AssizeRide judged(String law) {
        AssizeRide x = tried(law, "a;");
        x.judge(0);
        return x;
    }

    private static AssizeRide inState(int state, String law) {
        AssizeRide x = court(law);
        return Clerk.bringTo(state, x);
    }

    private static AssizeRide pleaFound(String facts) {
        AssizeRide x = court(DEATH);
        say(x, "t").plea(0, 1, 0, 0, 0, 5);
        Clerk.hear(x, 0, 1, facts);
        return x;
    }

    /** RANGE of numbers of no MATTER, and of a PLEA, in whatever STATE. */
    private void noCrown(OfOne ofFirst, OfMatter call) {
        due("ahead of all matters", call.ask(court(""), 0), RANGE);
        for (int m : new int[] {LEAST, -1, 1, MOST}) {
            refused("of matter " + m, () -> tried(DEATH, "a;"), x -> call.ask(x, m), RANGE);
        }
        for (String facts : new String[] {"a;", ""}) {
            refused("of a plea", () -> pleaFound(facts), ofFirst::ask, RANGE);
        }
    }

    private void onlyIn(OfOne call, int wanted) {
        for (int state = 0; state < 10; state++) {
            int now = state;
            if (state == wanted) {
                due("in state " + state, call.ask(inState(state, DEATH)), 1);
            } else {
                refused("in state " + state, () -> inState(now, DEATH), call::ask, STATE);
            }
        }
    }

    private void deathOrFine() {
        due("to death, though there is a fine", tried("death t; fine t 9;", "a;").judge(0), 1);
        due("nothing is paid", judged("death t; fine t 9;").count(6), 0);
        due("to die", judged("death t;").matter(0, 8), 1);
        for (int fine : new int[] {0, 1, 9999}) {
            AssizeRide x = tried("fine t " + fine + ";", "a;");
            due("to a fine", x.judge(0), 0);
            due("that is paid", x.matter(0, 9), fine);
            due("to the chest", x.count(6), fine);
            due("not to die", x.matter(0, 8), 0);
        }
        AssizeRide y = judged("");
        due("no fine told", y.matter(0, 9), 0);
        due("judged", y.matter(0, 7), 5);
        AssizeRide z = tried("fine t 4;", "a;");
        say(z, "fine t 5; death t;").act(1, 63);
        due("by the deed's day", z.judge(0), 0);
        due("the fine of that day", z.count(6), 4);
    }

    private void onceInALife() {
        AssizeRide x = judged(DEATH);
        due("once", x.benefit(0), 1);
        due("no death", x.matter(0, 8), 0);
        Clerk.indict(x, "t", "w", "a;");
        Clerk.hear(x, 1, 1, "a;");
        x.judge(1);
        due("not twice", x.benefit(1), STATE);
        due("to die still", x.matter(1, 8), 1);
        due("another one's life", anotherAccused(x), 1);
        due("undone", x.undo(0), 2);
        due("then again", x.benefit(1), 1);
    }

    private static int anotherAccused(AssizeRide x) {
        say(x, "t").crown(3, 0, 0, 0);
        say(x, "w").words(2);
        say(x, "a;").allege(2);
        x.bill(2, 0);
        Clerk.hear(x, 2, 1, "a;");
        x.judge(2);
        return x.benefit(2);
    }

    private void keptByLaw() {
        due("with keep", tried("keep t;", "a;").keep(0), 1);
        due("without", tried("", "a;").keep(0), STATE);
        due("of another deed", tried("keep u;", "a;").keep(0), STATE);
    }

    private void settledKept() {
        AssizeRide x = court(DEATH + "deed u = a; keep u; fine u 7;");
        String[] deeds = {"t", "u", "t", "t"};
        for (int m = 0; m < 4; m++) {
            Clerk.indict(x, deeds[m], "w", "a;");
            Clerk.hear(x, m, 1, "a;");
            if (m < 3) {
                x.keep(m);
            }
        }
        x.pass(1);
        due("as one", say(x, "t").settle(true), 2);
        int[] states = {5, 7, 5, 3};
        for (int m = 0; m < 4; m++) {
            due("state of " + m, x.matter(m, 7), states[m]);
            due("to death " + m, x.matter(m, 8), states[m] == 5 ? 1 : 0);
            due("a day ahead " + m, x.stateOn(m, 0, 1), m < 3 ? 7 : 3);
        }
        due("as none", say(x, "u").settle(false), 1);
        due("not guilty", x.matter(1, 7), 4);
        due("no fine", x.count(6), 0);
        x.keep(3);
        due("what is kept later waits for the next word", x.matter(3, 7), 7);
        due("as none", say(x, "t").settle(false), 1);
        due("those judged stay", x.matter(0, 7), 5);
    }

    private void latestWord() {
        String[] words = {"n", "y", "ny", "yn", "nyn", "yny"};
        for (String row : words) {
            AssizeRide x = court("");
            Clerk.indict(x, "t", "w", "a;");
            for (int i = 0; i < row.length(); i++) {
                say(x, "t").settle(row.charAt(i) == 'y');
            }
            say(x, "u").settle(row.endsWith("n"));
            due("heard behind " + row, Clerk.hear(x, 0, 1, "a;"), row.endsWith("y") ? 3 : 4);
        }
        AssizeRide y = tried("", "a;");
        say(y, "t").settle(false);
        due("what was heard stays", y.matter(0, 7), 3);
    }

    private void seenByThen() {
        for (int day = 9; day <= 11; day++) {
            AssizeRide x = judged("death t;");
            x.pardon(0, 2, 10);
            due("not to die", x.matter(0, 8), 0);
            x.pass(day);
            due("seen elsewhere on " + day, x.seen(0, 3), 0);
            due("another seen on " + day, x.seen(1, 2), 0);
            due("seen there on " + day, x.seen(0, 2), day <= 10 ? 100 : 0);
            due("state on " + day, x.matter(0, 7), day <= 10 ? 9 : 8);
            due("to die on " + day, x.matter(0, 8), day <= 10 ? 1 : 0);
        }
        AssizeRide y = judged("death t;");
        y.pardon(0, 2, 0);
        due("up to today, seen today", y.seen(0, 2), 100);
        due("not twice", y.seen(0, 2), 0);
    }

    private void undoneStates() {
        for (int state = 0; state < 10; state++) {
            boolean can = state == 4 || state == 5 || state == 6;
            AssizeRide x = inState(state, DEATH);
            due("undone in state " + state, x.undo(0), can ? 2 : STATE);
            due("state then", x.matter(0, 7), can ? 2 : state);
            due("to death then", x.matter(0, 8), state == 9 ? 1 : 0);
        }
        due("a plea judged", pleaFound("a;").undo(0), 0);
        due("a plea not guilty", pleaFound("").undo(0), 0);
        AssizeRide y = court("");
        say(y, "t").plea(0, 1, 0, 0, 0, 5);
        due("a begun plea", y.undo(0), STATE);
    }

    private void undoneJury() {
        AssizeRide x = court("");
        Clerk.indict(x, "t", "w", "a;");
        x.challenge(0, x.draw(0, 0));
        Clerk.hear(x, 0, 1, "");
        due("one challenge", x.matter(0, 12), 1);
        x.undo(0);
        due("no challenges", x.matter(0, 12), 0);
        due("no jurors", x.matter(0, 10), 0);
        due("not heard", x.matter(0, 14), NONE);
        due("all could be drawn", x.list(0), 3);
        due("who was challenged", x.draw(0, 0), 1);
        due("and is challenged again", x.challenge(0, 1), 1);
        AssizeRide y = court("");
        Clerk.indict(y, "t", "w", "a;");
        Clerk.hear(y, 0, 1, "");
        y.undo(0);
        due("no facts are found", y.check(0), STATE);
        due("but those alleged stay", y.bad(0), 0);
    }

    private void givenBack() {
        AssizeRide x = judged("fine t 9999;");
        Clerk.indict(x, "t", "w", "a;");
        Clerk.hear(x, 1, 1, "a;");
        x.judge(1);
        due("two fines", x.count(6), 19998);
        x.undo(0);
        due("one is given back", x.count(6), 9999);
        due("it is paid no more", x.matter(0, 9), 0);
        due("the other is", x.matter(1, 9), 9999);
        due("not twice", x.undo(0), STATE);
        due("the chest stays", x.count(6), 9999);
        AssizeRide y = judged(DEATH);
        y.benefit(0);
        y.undo(0);
        Clerk.hear(y, 0, 1, "a;");
        y.judge(0);
        due("benefit again", y.benefit(0), 1);
        AssizeRide z = judged(DEATH);
        z.benefit(0);
        Clerk.indict(z, "t", "w", "a;");
        Clerk.hear(z, 1, 1, "a;");
        z.judge(1);
        z.undo(1);
        Clerk.hear(z, 1, 1, "a;");
        z.judge(1);
        due("another one undone gives no second benefit", z.benefit(1), STATE);
    }

    private void benefitStates() {
        onlyIn(x -> x.benefit(0), 5);
        refused("judged to a fine", () -> judged("fine t 3; clergy t;"), x -> x.benefit(0), STATE);
        refused("no clergy", () -> judged("death t;"), x -> x.benefit(0), STATE);
        refused("clergy refused", () -> judged("death t; refuse t;"), x -> x.benefit(0), STATE);
        refused("clergy of another deed", () -> judged("death t; clergy u;"), x -> x.benefit(0), STATE);
        refused("had it", () -> {
            AssizeRide x = judged(DEATH);
            x.benefit(0);
            Clerk.indict(x, "t", "w", "a;");
            Clerk.hear(x, 1, 1, "a;");
            x.judge(1);
            return x;
        }, x -> x.benefit(1), STATE);
    }

    private void keepStates() {
        onlyIn(x -> x.keep(0), 3);
        refused("no keep", () -> tried("", "a;"), x -> x.keep(0), STATE);
    }

    private void howManyKept() {
        AssizeRide x = court(DEATH);
        due("none", say(x, "t").settle(true), 0);
        for (int m = 0; m < 3; m++) {
            Clerk.indict(x, "t", "w", "a;");
            Clerk.hear(x, m, 1, "a;");
            x.keep(m);
        }
        due("of another deed", say(x, "u").settle(true), 0);
        due("three", say(x, "t").settle(true), 3);
        due("none any more", say(x, "t").settle(true), 0);
    }

    private static AssizeRide kept() {
        AssizeRide x = tried(DEATH, "a;");
        x.keep(0);
        return x;
    }

    private void wordlessSettle() {
        for (String text : new String[] {"", " \n", "3", "t t", "t;", "abcdefghijklm", "?"}) {
            for (boolean as : new boolean[] {true, false}) {
                refusedReader("settle of " + text, () -> say(kept(), text), x -> x.settle(as), NONE);
            }
        }
        due("twelve letters", say(kept(), "abcdefghijkl").settle(true), 0);
        due("blanks about it", say(kept(), "\n t ").settle(true), 1);
    }

    private static AssizeRide settled(int times) {
        AssizeRide x = kept();
        for (int i = 0; i < times; i++) {
            say(x, i % 2 == 0 ? "u" : "v").settle(true);
        }
        return x;
    }

    private void settledFull() {
        AssizeRide x = settled(39);
        due("the 40th", say(x, "t").settle(false), 1);
        due("it holds", x.matter(0, 7), 4);
        x.undo(0);
        due("for hearings", Clerk.hear(x, 0, 1, "a;"), 4);
        refusedReader("the 41st", () -> say(settled(40), "t"), y -> y.settle(true), FULL);
        refusedReader("the 41st of a word that was settled", () -> say(settled(40), "u"), y -> y.settle(false), FULL);
        refusedReader("the 41st without a word", () -> say(settled(40), "3"), y -> y.settle(true), NONE);
        AssizeRide z = settled(40);
        say(z, "t").settle(false);
        Clerk.indict(z, "t", "w", "a;");
        due("the 41st holds for no hearing", Clerk.hear(z, 1, 1, "a;"), 3);
    }

    private static AssizeRide judgedOn5() {
        AssizeRide x = judged(DEATH);
        x.pass(5);
        return x;
    }

    private void pardonDays() {
        within("to", 5, 399, RANGE, to -> judgedOn5().pardon(0, 0, to));
        for (int to : new int[] {5, 6, 399}) {
            AssizeRide x = judgedOn5();
            due("to " + to, x.pardon(0, 5, to), 1);
            due("pardoned", x.matter(0, 7), 8);
        }
    }

    private void wrongPardons() {
        noCrown(x -> x.pardon(0, 0, 9), (x, m) -> x.pardon(m, 0, 9));
        within("shire", 0, 5, RANGE, shire -> judgedOn5().pardon(0, shire, 9));
        for (int shire : new int[] {LEAST, -1, 6, MOST}) {
            refused("shire " + shire, EdgeJudgementTest::judgedOn5, x -> x.pardon(0, shire, 9), RANGE);
            due("ahead of STATE", inState(3, DEATH).pardon(0, shire, 9), RANGE);
        }
        for (int to : new int[] {LEAST, -1, 4, 400, MOST}) {
            refused("to " + to, EdgeJudgementTest::judgedOn5, x -> x.pardon(0, 0, to), RANGE);
        }
        due("a day ahead of STATE", inState(3, DEATH).pardon(0, 0, 400), RANGE);
    }

    private void pardonStates() {
        onlyIn(x -> x.pardon(0, 0, 399), 5);
        refused("judged to a fine", () -> judged("fine t 3;"), x -> x.pardon(0, 0, 399), STATE);
        refused("judged to nothing", () -> judged(""), x -> x.pardon(0, 0, 399), STATE);
    }

    private void wrongUndo() {
        due("ahead of all matters", court("").undo(0), RANGE);
        for (int m : new int[] {LEAST, -1, 1, MOST}) {
            refused("of matter " + m, () -> judged(DEATH), x -> x.undo(m), RANGE);
        }
        due("a crown one", judged(DEATH).undo(0), 2);
        due("a plea", pleaFound("a;").undo(0), 0);
    }

    private void undoStates() {
        for (int state : new int[] {0, 1, 2, 3, 7, 8, 9}) {
            refused("in state " + state, () -> inState(state, DEATH), x -> x.undo(0), STATE);
        }
        Supplier<AssizeRide> begun = () -> {
            AssizeRide x = court("");
            say(x, "t").plea(0, 1, 0, 0, 0, 5);
            return x;
        };
        refused("a begun plea", begun, x -> x.undo(0), STATE);
        AssizeRide y = kept();
        say(y, "t").settle(false);
        due("not guilty by the judges", y.undo(0), 2);
    }
}
