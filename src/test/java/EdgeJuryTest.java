import java.util.function.Supplier;

/** Boundary cases of witnesses, jurors, hearings and KIN LATER: Terms IV, promises 29 to 37. */
public final class EdgeJuryTest extends Edges {
    public static void main(String[] args) {
        new EdgeJuryTest().test();
    }

    @Override
    void sentences() {
        in("IV");
        edge("JURORS of a MATTER (TRUE BILL, or a PLEA that is BEGUN)", this::whenWanted);
        edge("if they are of its SHIRE", this::ofItsShire);
        edge("not DEAD", this::notDead);
        edge("have LAND (for the day, as KNOWN on it) of land or more", this::landEnough);
        edge("are neither party nor witness", this::partiesAndWitnesses);
        edge("no KIN of a degree of kin or less of a party (KNOWN on it)", this::kinOfAParty);
        edge("of those who MAY be one today, aren't one and weren't challenged, by rising number the one at it", this::drawnByNumber);
        edge("a juror is none any more, as often as challenge says", this::challenges);
        edge("FULL: jury many, of whom hundred or more are of its HUNDRED", this::fullness);
        edge("how many of its HUNDRED must still come (at least), if there are not enough", this::lackOfHundred);
        edge("HEARD, FULL alone", this::heardFullAlone);
        edge("CROWN: GUILTY, if the deed is MADE, and isn't SETTLED as none (below); else NOT GUILTY", this::crownFound);
        edge("A PLEA: JUDGED (the other one owes the pounds), if it is MADE; else NOT GUILTY", this::pleaFound);
        edge("one of the jurors of a MATTER that is GUILTY or JUDGED would not have been one", this::kinLaterByState);
        edge("had it been KNOWN, one of the jurors", this::kinLaterByDegree);
        edge("if THE LAW has void, the MATTER is TRUE BILL (a PLEA BEGUN) again", this::kinLaterByVoid);
        edge("without jurors, FACTS, and what it made paid is given back (as UNDONE)", this::kinLaterGivesBack);
        calls();
    }

    private void calls() {
        in("9");
        edge("how many MATTERS are begun again by it (KIN LATER)", this::begunAgain);
        edge("FULL: the 301st TELLING", this::kinLaterFull);
        in("29");
        edge("RANGE: no such", this::wrongWitnesses);
        edge("STATE: it isn't OPEN, they are one, a party, or a juror of it", this::witnessStates);
        edge("FULL: the fifth", this::fifthWitness);
        in("30");
        edge("1 if one MAY be a juror of a MATTER today, else 0; RANGE", this::wrongMay);
        in("31");
        edge("How many could be DRAWN; RANGE: no such MATTER", this::lists);
        edge("STATE: no jurors are wanted of it now", () -> notWanted(x -> x.list(0)));
        in("32");
        edge("One is DRAWN by a number (0 .. list() less 1)", this::numbers);
        edge("RANGE: no such MATTER, number", this::wrongDraws);
        edge("STATE likewise", () -> notWanted(x -> x.draw(0, 0)));
        edge("FULL: it has as many as jury", this::drawnFull);
        in("33");
        edge("how many challenges there were", this::howManyChallenges);
        edge("RANGE: no such MATTER, not a juror of it", this::wrongChallenges);
        edge("STATE: as draw(), or as many were already", this::challengeStates);
        in("34");
        edge("1 if the jury is FULL, else 0; RANGE", this::wrongFull);
        in("35");
        edge("What it LACKS of its HUNDRED; RANGE", this::wrongLacks);
        in("36");
        edge("(in the order in which they were DRAWN); NONE", this::jurors);
        in("37");
        edge("RANGE: no such MATTER", this::wrongHearings);
        edge("STATE: it isn't TRUE BILL (a PLEA: BEGUN), or the jury isn't FULL", this::hearingStates);
        edge("NONE: it is no row", this::noRow);
    }

    private interface OfOne {
        int ask(AssizeRide x);
    }

    private static AssizeRide court(String law) {
        AssizeRide x = Clerk.under("deed t = a; bill 0; " + law);
        Clerk.settle(x, 6);
        return x;
    }

    /** MATTER 0 is a TRUE BILL against person 0 of SHIRE 0 and HUNDRED 0; six PEOPLE there have 100 pounds each. */
    private static AssizeRide indicted(String law) {
        AssizeRide x = court(law);
        Clerk.indict(x, "t", "w", "a;");
        return x;
    }

    private static AssizeRide sued(String law) {
        AssizeRide x = court(law);
        say(x, "t").plea(0, 1, 0, 0, 0, 5);
        return x;
    }

    private static AssizeRide inState(int state) {
        AssizeRide x = court("death t; clergy t; keep t; jury 1; hundred 0; land 0; challenge 12;");
        return Clerk.bringTo(state, x);
    }

    private void notWanted(OfOne call) {
        for (int state = 0; state < 10; state++) {
            int now = state;
            if (state == 2) {
                due("in state 2", call.ask(inState(2)) == STATE ? 1 : 0, 0);
            } else {
                refused("in state " + state, () -> inState(now), call::ask, STATE);
            }
        }
        for (String facts : new String[] {"a;", ""}) {
            AssizeRide x = sued("jury 1; hundred 0;");
            Clerk.hear(x, 0, 1, facts);
            due("of a plea in state " + x.matter(0, 7), call.ask(x), STATE);
        }
        due("of a begun plea", call.ask(sued("jury 1; hundred 0;")) == STATE ? 1 : 0, 0);
    }

    private void whenWanted() {
        notWanted(x -> x.list(0));
        due("a true bill", indicted("").list(0), 5);
        due("a begun plea", sued("").list(0), 4);
    }

    private void ofItsShire() {
        for (int s = 0; s < 6; s++) {
            AssizeRide x = indicted("land 0;");
            int p = x.person(s, 0);
            due("one of shire " + s, x.may(0, p), s == 0 ? 1 : 0);
        }
        AssizeRide y = court("land 0;");
        y.person(5, 9);
        say(y, "t").crown(0, 5, 0, 0);
        due("of the matter's shire, not the accused's", y.may(0, 6), 1);
        due("of the accused's", y.may(0, 1), 0);
    }

    private void notDead() {
        for (int from : new int[] {0, 4, 5, 6, 399}) {
            AssizeRide x = indicted("");
            x.pass(5);
            x.dead(1, from);
            due("dead from " + from + " on day 5", x.may(0, 1), from <= 5 ? 0 : 1);
        }
    }

    private void landEnough() {
        int[] laws = {0, 1, 20, 9999};
        for (int law : laws) {
            for (int pounds : new int[] {law - 1, law, law + 1}) {
                if (pounds >= 0 && pounds <= 9999) {
                    AssizeRide x = indicted("land " + law + ";");
                    x.land(1, pounds, 0);
                    due(pounds + " pounds where " + law + " are asked", x.may(0, 1), pounds >= law ? 1 : 0);
                }
            }
        }
        AssizeRide x = indicted("");
        x.land(1, 19, 0);
        due("19 without a clause", x.may(0, 1), 0);
        x.land(1, 20, 0);
        due("20 without a clause", x.may(0, 1), 1);
        x.land(1, 0, 1);
        due("none from tomorrow on", x.may(0, 1), 1);
        x.pass(1);
        due("none today", x.may(0, 1), 0);
        AssizeRide y = indicted("land 0;");
        due("no land told where none is asked", y.may(0, y.person(0, 0)), 1);
        AssizeRide z = indicted("land 1;");
        due("no land told where some is asked", z.may(0, z.person(0, 0)), 0);
    }

    private void partiesAndWitnesses() {
        AssizeRide x = indicted("");
        due("the accused", x.may(0, 0), 0);
        due("another", x.may(0, 1), 1);
        x.witness(0, 1);
        due("a witness", x.may(0, 1), 0);
        AssizeRide y = sued("");
        due("who sues", y.may(0, 0), 0);
        due("who is sued", y.may(0, 1), 0);
        due("another", y.may(0, 2), 1);
    }

    private void kinOfAParty() {
        for (int law = 0; law <= 4; law++) {
            for (int degree = 0; degree <= 4; degree++) {
                AssizeRide x = indicted("kin " + law + ";");
                x.kin(1, 0, degree);
                int want = degree > 0 && degree <= law ? 0 : 1;
                due("degree " + degree + " where kin " + law + " is asked", x.may(0, 1), want);
                AssizeRide y = sued("kin " + law + ";");
                y.kin(0, 2, degree);
                due("of who sues", y.may(0, 2), want);
                AssizeRide z = sued("kin " + law + ";");
                z.kin(2, 1, degree);
                due("of who is sued", z.may(0, 2), want);
            }
        }
        AssizeRide x = indicted("");
        x.kin(1, 0, 2);
        due("degree 2 without a clause", x.may(0, 1), 0);
        x.kin(1, 0, 3);
        due("degree 3 without a clause", x.may(0, 1), 1);
        x.kin(1, 2, 1);
        due("kin of another", x.may(0, 1), 1);
    }

    private void drawnByNumber() {
        AssizeRide x = indicted("jury 4; challenge 3;");
        x.kin(3, 0, 1);
        due("four could be drawn", x.list(0), 4);
        due("the last", x.draw(0, 3), 5);
        due("the first", x.draw(0, 0), 1);
        due("two are left", x.list(0), 2);
        x.challenge(0, 1);
        due("who was challenged isn't", x.list(0), 2);
        due("the first of them", x.draw(0, 0), 2);
        due("the next", x.draw(0, 0), 4);
        due("nobody is left", x.list(0), 0);
        due("number 0 of none", x.draw(0, 0), RANGE);
    }

    private static AssizeRide challenged(String law, int times) {
        AssizeRide x = Clerk.under("deed t = a; bill 0; jury 1; hundred 0;" + law);
        Clerk.settle(x, 15);
        Clerk.indict(x, "t", "w", "a;");
        for (int i = 0; i < times; i++) {
            x.challenge(0, x.draw(0, 0));
        }
        x.draw(0, 0);
        return x;
    }

    private void challenges() {
        for (int law : new int[] {0, 1, 2, 11, 12}) {
            String clause = "challenge " + law + ";";
            if (law > 0) {
                AssizeRide x = challenged(clause, law - 1);
                due("the last of " + law, x.challenge(0, law), law);
                due("is a juror no more", x.matter(0, 10), 0);
            }
            refused("one beyond " + law, () -> challenged(clause, law), y -> y.challenge(0, law + 1), STATE);
        }
        due("two without a clause", challenged("", 1).challenge(0, 2), 2);
        due("no three without a clause", challenged("", 2).challenge(0, 3), STATE);
    }

    private void fullness() {
        for (int jury : new int[] {1, 6, 12}) {
            AssizeRide x = Clerk.under("deed t = a; bill 0; hundred 0; jury " + jury + ";");
            Clerk.settle(x, 14);
            Clerk.indict(x, "t", "w", "a;");
            Clerk.swear(x, 0, jury - 1);
            due("one fewer than " + jury, x.full(0), 0);
            x.draw(0, 0);
            due("as many as " + jury, x.full(0), 1);
            due("and no more", x.draw(0, 0), FULL);
        }
        AssizeRide y = indicted("");
        Clerk.swear(y, 0, 5);
        due("five without a clause", y.full(0), 0);
        y.person(0, 1);
        y.land(6, 20, 0);
        y.draw(0, 0);
        due("six without a clause", y.full(0), 1);
        AssizeRide z = mixed(2, 2);
        Clerk.swear(z, 0, 2);
        due("one of its hundred where two are asked", z.full(0), 0);
        z.challenge(0, 2);
        z.draw(0, 0);
        due("two of them", z.full(0), 1);
        AssizeRide w = mixed(2, 0);
        w.draw(0, 1);
        w.draw(0, 2);
        due("none of its hundred where none are asked", w.full(0), 1);
        AssizeRide v = mixed(1, 2);
        v.draw(0, 0);
        due("more of its hundred asked than jurors", v.full(0), 0);
    }

    /** Person 0 accused in HUNDRED 0; 1, 3 and 5 are of it, 2 and 4 of another. */
    private static AssizeRide mixed(int jury, int hundred) {
        AssizeRide x = Clerk.under("deed t = a; bill 0; land 0; challenge 9; jury " + jury + "; hundred " + hundred + ";");
        for (int p = 0; p < 6; p++) {
            x.person(0, p == 2 || p == 4 ? 9 : 0);
        }
        Clerk.indict(x, "t", "w", "a;");
        return x;
    }

    private void lackOfHundred() {
        AssizeRide x = mixed(4, 2);
        due("two at first", x.lacks(0), 2);
        x.draw(0, 1);
        due("two still", x.lacks(0), 2);
        x.draw(0, 0);
        due("one", x.lacks(0), 1);
        x.draw(0, 0);
        due("none", x.lacks(0), 0);
        x.draw(0, 1);
        due("none, though there are more", x.lacks(0), 0);
        due("where none are asked", mixed(4, 0).lacks(0), 0);
        due("where twelve are asked", mixed(4, 12).lacks(0), 12);
        due("one without a clause", indicted("").lacks(0), 1);
        x.challenge(0, 5);
        x.challenge(0, 3);
        due("one, when two were challenged", x.lacks(0), 1);
    }

    private void heardFullAlone() {
        AssizeRide x = indicted("jury 2; hundred 0;");
        due("without jurors", say(x, "a;").hear(0), STATE);
        x.draw(0, 0);
        due("with one of two", say(x, "a;").hear(0), STATE);
        x.draw(0, 0);
        due("with both", say(x, "a;").hear(0), 3);
        AssizeRide y = mixed(2, 2);
        Clerk.swear(y, 0, 2);
        due("too few of its hundred", say(y, "a;").hear(0), STATE);
        AssizeRide z = indicted("jury 1; hundred 0;");
        z.draw(0, 0);
        z.dead(1, 0);
        due("a juror who died since is one", say(z, "a;").hear(0), 3);
    }

    private void crownFound() {
        due("made", found("", "a;"), 3);
        due("made by 9999", found("", "a=9999;"), 3);
        due("not made by 0", found("", "a=0;"), 4);
        due("not made by none", found("", ""), 4);
        AssizeRide x = indicted("jury 1; hundred 0;");
        say(x, "t").settle(false);
        due("settled as none", Clerk.hear(x, 0, 1, "a;"), 4);
        AssizeRide y = indicted("jury 1; hundred 0;");
        say(y, "t").settle(false);
        say(y, "t").settle(true);
        due("settled as one since", Clerk.hear(y, 0, 1, "a;"), 3);
        AssizeRide z = indicted("jury 1; hundred 0;");
        say(z, "t").settle(true);
        due("settled as one, not made", Clerk.hear(z, 0, 1, ""), 4);
        AssizeRide w = indicted("jury 1; hundred 0;");
        say(w, "tt").settle(false);
        due("another deed settled", Clerk.hear(w, 0, 1, "a;"), 3);
        AssizeRide v = indicted("jury 1; hundred 0;");
        say(v, "strike 0 t;").act(0, 63);
        due("no such deed any more", Clerk.hear(v, 0, 1, "a;"), 4);
    }

    private int found(String law, String facts) {
        return Clerk.hear(indicted("jury 1; hundred 0;" + law), 0, 1, facts);
    }

    private void pleaFound() {
        AssizeRide x = sued("jury 1; hundred 0; death t; fine t 9;");
        due("made", Clerk.hear(x, 0, 1, "a;"), 5);
        due("not to death", x.matter(0, 8), 0);
        due("no fine", x.matter(0, 9), 0);
        due("nothing for the crown", x.count(6), 0);
        due("not made", Clerk.hear(sued("jury 1; hundred 0;"), 0, 1, "a=0;"), 4);
        AssizeRide y = sued("jury 1; hundred 0;");
        say(y, "t").settle(false);
        due("settled as none", Clerk.hear(y, 0, 1, "a;"), 5);
        AssizeRide z = court("jury 1; hundred 0;");
        say(z, "u").plea(0, 1, 0, 0, 0, 5);
        due("no such deed", Clerk.hear(z, 0, 1, "a;"), 4);
    }

    /** The juror of MATTER 0 is person 1, where THE LAW has void. */
    private static AssizeRide voidable(int state) {
        AssizeRide x = Clerk.under("deed t = a; bill 0; void; death t; clergy t; keep t; jury 1; hundred 0; land 0;");
        Clerk.settle(x, 4);
        Clerk.indict(x, "t", "w", "a;");
        x.draw(0, 0);
        if (state > 2) {
            say(x, state == 4 ? "" : "a;").hear(0);
        }
        if (state == 7) {
            x.keep(0);
        } else if (state > 4) {
            x.judge(0);
        }
        if (state == 6) {
            x.benefit(0);
        }
        if (state > 7) {
            x.pardon(0, 0, 0);
        }
        if (state == 9) {
            x.seen(0, 0);
        }
        return x;
    }

    private void kinLaterByState() {
        for (int state = 2; state < 10; state++) {
            AssizeRide x = voidable(state);
            due("it is of state " + state, x.matter(0, 7), state);
            boolean isBegunAgain = state == 3 || state == 5;
            due("kin of a juror in state " + state, x.kin(0, 1, 1), isBegunAgain ? 1 : 0);
            due("the state then", x.matter(0, 7), isBegunAgain ? 2 : state);
            due("jurors then", x.matter(0, 10), isBegunAgain ? 0 : 1);
        }
        for (String facts : new String[] {"a;", ""}) {
            AssizeRide y = sued("void; jury 1; hundred 0;");
            Clerk.hear(y, 0, 1, facts);
            due("of a plea, found by " + facts, y.kin(2, 1, 1), facts.isEmpty() ? 0 : 1);
            due("the state then", y.matter(0, 7), facts.isEmpty() ? 4 : 0);
        }
    }

    private void kinLaterByDegree() {
        for (int law = 0; law <= 4; law++) {
            for (int degree = 0; degree <= 4; degree++) {
                AssizeRide x = indicted("void; jury 1; hundred 0; kin " + law + ";");
                Clerk.hear(x, 0, 1, "a;");
                int want = degree > 0 && degree <= law ? 1 : 0;
                due("degree " + degree + " where kin " + law + " is asked", x.kin(1, 0, degree), want);
                due("the state then", x.matter(0, 7), want == 1 ? 2 : 3);
            }
        }
        AssizeRide y = indicted("void; jury 2; hundred 0;");
        Clerk.hear(y, 0, 2, "a;");
        due("kin of one who is no juror", y.kin(3, 0, 1), 0);
        due("the party told first", y.kin(0, 4, 1), 0);
        due("kin of two jurors", y.kin(1, 2, 1), 0);
        due("kin of the second juror", y.kin(0, 2, 2), 1);
    }

    private void kinLaterByVoid() {
        for (String law : new String[] {"", "stand;"}) {
            AssizeRide x = indicted("jury 1; hundred 0;" + law);
            Clerk.hear(x, 0, 1, "a;");
            due("where it stands", x.kin(0, 1, 1), 0);
            due("guilty still", x.matter(0, 7), 3);
            say(x, "void;").act(1, 63);
            due("void of a later day", x.kin(0, 1, 1), 0);
        }
        AssizeRide y = indicted("jury 1; hundred 0;");
        Clerk.hear(y, 0, 1, "a;");
        say(y, "void;").act(0, 62);
        due("void of other shires", y.kin(0, 1, 1), 0);
        say(y, "void;").act(0, 1);
        due("void of its own", y.kin(0, 1, 1), 1);
        due("true bill", y.matter(0, 7), 2);
        AssizeRide z = sued("void; jury 1; hundred 0;");
        Clerk.hear(z, 0, 1, "a;");
        due("a plea", z.kin(0, 2, 1), 1);
        due("begun", z.matter(0, 7), 0);
    }

    private void kinLaterGivesBack() {
        AssizeRide x = indicted("void; jury 1; hundred 0; fine t 9999; challenge 1;");
        x.challenge(0, x.draw(0, 0));
        Clerk.hear(x, 0, 1, "a;");
        x.judge(0);
        due("paid", x.count(6), 9999);
        due("begun again", x.kin(2, 0, 1), 1);
        due("given back", x.count(6), 0);
        int[] want = {2, 0, 0, 0, 0, 0, 1, NONE};
        for (int what = 7; what <= 14; what++) {
            due("what " + what, x.matter(0, what), want[what - 7]);
        }
        due("no juror", x.juror(0, 0), NONE);
        due("who was challenged is drawn", x.draw(0, 0), 1);
        due("and may be challenged", x.challenge(0, 1), 1);
    }

    private void begunAgain() {
        AssizeRide x = Clerk.under("deed t = a; bill 0; void; jury 1; hundred 0; land 0;");
        Clerk.settle(x, 4);
        for (int m = 0; m < 3; m++) {
            Clerk.indict(x, "t", "w", "a;");
            Clerk.hear(x, m, 1, "a;");
        }
        x.judge(1);
        due("none", x.kin(2, 0, 1), 0);
        due("all three", x.kin(1, 0, 1), 3);
        due("none more", x.kin(1, 0, 1), 0);
        due("true bills", x.count(22), 3);
    }

    private static AssizeRide told300() {
        AssizeRide x = Clerk.under("deed t = a; bill 0; void; jury 1; hundred 0; land 0;");
        x.person(0, 0);
        x.person(0, 0);
        Clerk.indict(x, "t", "w", "a;");
        Clerk.hear(x, 0, 1, "a;");
        for (int i = 0; i < 300; i++) {
            x.land(0, 1, 0);
        }
        return x;
    }

    private void kinLaterFull() {
        AssizeRide x = told300();
        due("tellings", x.count(2), 300);
        due("the 301st begins nothing again", x.kin(0, 1, 1), FULL);
        due("guilty still", x.matter(0, 7), 3);
        due("its juror too", x.matter(0, 10), 1);
    }

    private void wrongWitnesses() {
        for (int m : new int[] {LEAST, -1, 1, MOST}) {
            refused("of matter " + m, () -> indicted(""), x -> x.witness(m, 1), RANGE);
        }
        for (int p : new int[] {LEAST, -1, 6, MOST}) {
            refused("witness " + p, () -> indicted(""), x -> x.witness(0, p), RANGE);
        }
        due("RANGE ahead of STATE", inState(1).witness(0, 6), RANGE);
        due("the last one of people", indicted("").witness(0, 5), 1);
    }

    private void witnessStates() {
        for (int state = 0; state < 10; state++) {
            int now = state;
            if (state == 0 || state == 2 || state == 3 || state == 7) {
                due("in state " + state, inState(state).witness(0, 5), 1);
            } else {
                refused("in state " + state, () -> inState(now), x -> x.witness(0, 5), STATE);
            }
        }
        Supplier<AssizeRide> made = () -> {
            AssizeRide x = indicted("");
            x.witness(0, 1);
            x.draw(0, 0);
            return x;
        };
        refused("who is one", made, x -> x.witness(0, 1), STATE);
        refused("the accused", made, x -> x.witness(0, 0), STATE);
        refused("a juror", made, x -> x.witness(0, 2), STATE);
        refused("who sues", () -> sued(""), x -> x.witness(0, 0), STATE);
        refused("who is sued", () -> sued(""), x -> x.witness(0, 1), STATE);
        AssizeRide y = made.get();
        y.challenge(0, 2);
        due("who was a juror", y.witness(0, 2), 2);
    }

    private static AssizeRide fourWitnesses() {
        AssizeRide x = Clerk.under("deed t = a; bill 0;");
        Clerk.settle(x, 7);
        Clerk.indict(x, "t", "w", "a;");
        for (int p = 1; p < 5; p++) {
            x.witness(0, p);
        }
        return x;
    }

    private void fifthWitness() {
        due("four", fourWitnesses().matter(0, 11), 4);
        refused("the fifth", EdgeJuryTest::fourWitnesses, x -> x.witness(0, 5), FULL);
        refused("the fifth is one", EdgeJuryTest::fourWitnesses, x -> x.witness(0, 4), STATE);
        refused("the fifth is the accused", EdgeJuryTest::fourWitnesses, x -> x.witness(0, 0), STATE);
        refused("the fifth is nobody", EdgeJuryTest::fourWitnesses, x -> x.witness(0, 7), RANGE);
        due("who wasn't taken may be a juror", fourWitnesses().may(0, 5), 1);
    }

    private void wrongMay() {
        within("matter", 0, 0, RANGE, m -> indicted("").may(m, 1));
        within("who", 0, 5, RANGE, p -> indicted("").may(0, p));
        due("ahead of all matters", court("").may(0, 0), RANGE);
    }

    private void lists() {
        within("matter", 0, 0, RANGE, m -> indicted("").list(m));
        due("none could be", indicted("land 101;").list(0), 0);
        due("five", indicted("land 100;").list(0), 5);
        AssizeRide x = new AssizeRide();
        for (int p = 0; p < 120; p++) {
            x.person(0, 0);
        }
        say(x, "land 0;").act(0, 1);
        say(x, "t").plea(0, 119, 0, 0, 0, 1);
        due("all but the parties", x.list(0), 118);
        due("the last of them", x.draw(0, 117), 118);
        due("none behind", x.draw(0, 117), RANGE);
    }

    private void numbers() {
        for (int number = 0; number < 5; number++) {
            due("number " + number, indicted("").draw(0, number), number + 1);
        }
        for (int number : new int[] {LEAST, -1, 5, 6, MOST}) {
            refused("number " + number, () -> indicted(""), x -> x.draw(0, number), RANGE);
        }
    }

    private void wrongDraws() {
        for (int m : new int[] {LEAST, -1, 1, MOST}) {
            refused("of matter " + m, () -> indicted(""), x -> x.draw(m, 0), RANGE);
        }
        refused("of nobody", () -> indicted("land 101;"), x -> x.draw(0, 0), RANGE);
        due("no such matter ahead of all", court("").draw(0, 0), RANGE);
        due("STATE ahead of a wrong number", inState(3).draw(0, 99), STATE);
    }

    private void drawnFull() {
        Supplier<AssizeRide> made = () -> {
            AssizeRide x = indicted("jury 3; hundred 0;");
            Clerk.swear(x, 0, 3);
            return x;
        };
        refused("the fourth", made, x -> x.draw(0, 0), FULL);
        refused("a wrong number behind the third", made, x -> x.draw(0, 9), FULL);
        AssizeRide y = made.get();
        y.challenge(0, 2);
        due("one in a challenged one's place", y.draw(0, 0), 4);
        due("but not two", y.draw(0, 0), FULL);
        AssizeRide z = Clerk.under("deed t = a; bill 0; jury 12;");
        Clerk.settle(z, 14);
        Clerk.indict(z, "t", "w", "a;");
        Clerk.swear(z, 0, 12);
        due("the thirteenth", z.draw(0, 0), FULL);
        due("the twelfth", z.juror(0, 11), 12);
    }

    private void howManyChallenges() {
        AssizeRide x = indicted("jury 1; hundred 0; challenge 12;");
        for (int i = 1; i <= 4; i++) {
            due("challenge", x.challenge(0, x.draw(0, 0)), i);
            due("are told", x.matter(0, 12), i);
        }
    }

    private void wrongChallenges() {
        Supplier<AssizeRide> made = () -> {
            AssizeRide x = indicted("");
            x.draw(0, 0);
            return x;
        };
        for (int m : new int[] {LEAST, -1, 1, MOST}) {
            refused("of matter " + m, made, x -> x.challenge(m, 1), RANGE);
        }
        for (int p : new int[] {LEAST, -1, 0, 2, 6, MOST}) {
            refused("of " + p, made, x -> x.challenge(0, p), RANGE);
        }
        AssizeRide y = made.get();
        y.challenge(0, 1);
        due("one who was challenged", y.challenge(0, 1), RANGE);
    }

    private void challengeStates() {
        for (int state = 3; state < 10; state++) {
            int now = state;
            refused("in state " + state, () -> inState(now), x -> x.challenge(0, 1), STATE);
        }
        refused("as many were already", () -> challenged("challenge 1;", 1), x -> x.challenge(0, 2), STATE);
        refused("none are allowed", () -> challenged("challenge 0;", 0), x -> x.challenge(0, 1), STATE);
        due("no juror, as many were already", challenged("challenge 1;", 1).challenge(0, 1), RANGE);
    }

    private void wrongFull() {
        within("matter", 0, 0, RANGE, m -> indicted("").full(m));
        due("of a begun crown", inState(0).full(0), 0);
        due("ahead of all matters", court("").full(0), RANGE);
    }

    private void wrongLacks() {
        within("matter", 0, 0, RANGE, m -> indicted("").lacks(m));
        due("ahead of all matters", court("").lacks(0), RANGE);
    }

    private void jurors() {
        AssizeRide x = indicted("");
        due("none", x.juror(0, 0), NONE);
        x.draw(0, 4);
        x.draw(0, 1);
        x.draw(0, 0);
        int[] want = {5, 2, 1};
        for (int i = 0; i < 3; i++) {
            due("juror " + i, x.juror(0, i), want[i]);
        }
        for (int i : new int[] {LEAST, -1, 3, 12, MOST}) {
            due("juror " + i, x.juror(0, i), NONE);
        }
        for (int m : new int[] {LEAST, -1, 1, MOST}) {
            due("juror of " + m, x.juror(m, 0), NONE);
        }
        x.challenge(0, 2);
        due("the next moves up", x.juror(0, 1), 1);
        due("behind the last", x.juror(0, 2), NONE);
        x.challenge(0, 5);
        due("the next is first", x.juror(0, 0), 1);
        due("and alone", x.juror(0, 1), NONE);
    }

    private void wrongHearings() {
        for (int m : new int[] {LEAST, -1, 1, MOST}) {
            refusedReader("of matter " + m, () -> say(inState(2), "a;"), x -> x.hear(m), RANGE);
        }
        due("RANGE ahead of NONE", say(inState(2), "a").hear(1), RANGE);
    }

    private void hearingStates() {
        for (int state = 0; state < 10; state++) {
            int now = state;
            refusedReader("in state " + state, () -> say(inState(now), "a;"), x -> x.hear(0), STATE);
        }
        AssizeRide x = inState(2);
        x.draw(0, 0);
        due("true bill with a jury", say(x, "a;").hear(0), 3);
        due("STATE ahead of NONE", say(inState(2), "a").hear(0), STATE);
        for (String facts : new String[] {"a;", ""}) {
            AssizeRide y = sued("jury 1; hundred 0;");
            due("a plea without a jury", say(y, "a;").hear(0), STATE);
            Clerk.hear(y, 0, 1, facts);
            due("a plea heard", say(y, "a;").hear(0), STATE);
        }
    }

    private void noRow() {
        Supplier<AssizeRide> made = () -> {
            AssizeRide x = inState(2);
            x.draw(0, 0);
            return x;
        };
        StringBuilder row = new StringBuilder();
        for (int i = 0; i < 20; i++) {
            row.append((char) ('a' + i)).append(";");
        }
        due("twenty", say(made.get(), row.toString()).hear(0), 3);
        due("none", say(made.get(), "").hear(0), 4);
        for (String text : new String[] {row + "u;", "a", "a;a;", "a=10000;", ";", "3;", "a=b;"}) {
            refusedReader("hear of " + text, () -> say(made.get(), text), x -> x.hear(0), NONE);
        }
    }
}
