import java.util.function.Supplier;

/** Boundary cases of what was, of counts, of the constants and of 512 calls: Terms VIII, promises 66 to 69. */
public final class EdgeWasTest extends Edges {
    private static final String LAW = "deed t = a; death t; clergy t; keep t; jury 1; hundred 0; bill 0; land 50; kin 2;";
    private static final int BLANKS = 0x20202020;

    public static void main(String[] args) {
        new EdgeWasTest().test();
    }

    @Override
    void sentences() {
        in("What it is");
        edge("An object is used for at most 512 calls after it has been made", this::the512th);
        in("VIII");
        edge("each change of STATE of a MATTER is on the CLOCK's day", this::onTheClocksDay);
        edge("a MATTER was of a STATE from an earlier day on (it stands beside the changes; what may be done hangs on these alone)", this::besideTheChanges);
        edge("known by then that hold from that day or ahead of it", this::knownByThen);
        edge("the one that holds from the latest day (of one day that told last); NONE without", this::latestDay);
        edge("CHECKED, a MATTER that is GUILTY, NOT GUILTY by a jury, JUDGED, BENEFIT, KEPT, PARDONED or BROKEN", this::checkedStates);
        edge("1 its INDICTMENT is BAD (CROWN)", this::badIndictment);
        edge("2 a juror MAY not have been one on the day on which it was HEARD, by what is KNOWN now", this::barredJuror);
        edge("3 its FOUND FACTS make another STATE (by THE LAW, without SETTLED) than GUILTY or NOT GUILTY, as it was found", this::otherState);
        edge("The first of these.", this::firstOfThese);
        constants();
        calls();
    }

    private void constants() {
        edge("`NONE = -1`: There is none.", () -> due("NONE", AssizeRide.NONE, -1));
        edge("`RANGE = -2`: A number that can't be.", () -> due("RANGE", AssizeRide.RANGE, -2));
        edge("`FULL = -3`: No room.", () -> due("FULL", AssizeRide.FULL, -3));
        edge("`STATE = -4`: Not as things are.", () -> due("STATE", AssizeRide.STATE, -4));
    }

    private void calls() {
        in("66");
        edge("a MATTER was of a STATE (0 .. 9) from a day on (not behind the CLOCK's)", this::rightingBounds);
        edge("how many rightings there are of it; RANGE", this::wrongRightings);
        edge("FULL: the 41st of it", this::rightingsFull);
        edge("(Its STATE now isn't changed.)", this::stateStays);
        in("67");
        edge("as known on a day; NONE", this::noState);
        edge("NONE; RANGE", this::wrongStateOn);
        in("68");
        edge("CHECKED: 0 .. 3; RANGE", this::wrongChecks);
        edge("STATE: it is of none of those STATES", this::uncheckedStates);
        in("69");
        edge("What 0: the CLOCK's day, 1: PEOPLE, 2: TELLINGS, 3: ACTS, 4: MATTERS, 5: BONDS, 6: the CROWN's chest (pounds), "
                + "7: bytes of THE TAPE, 8: MATTERS in the ORDER", this::countsAtTheirEnds);
        edge("10 + s: PRISONERS of SHIRE s, 20 + k: MATTERS of STATE k", this::countsByShireAndState);
        edge("NONE for others", this::otherCounts);
    }

    private static AssizeRide court() {
        AssizeRide x = Clerk.under(LAW);
        Clerk.settle(x, 5);
        return x;
    }

    private static AssizeRide inState(int state) {
        return Clerk.bringTo(state, court());
    }

    /** 511 calls of many kinds, and the 512th answers as it should. */
    private void the512th() {
        AssizeRide x = new AssizeRide();
        for (int p = 0; p < 120; p++) {
            x.person(0, 0);
        }
        for (int i = 0; i < 190; i++) {
            x.land(i % 120, i, 0);
        }
        for (int m = 0; m < 100; m++) {
            feedT(x);
            x.crown(m, 0, 0, 0);
        }
        due("the 511th", x.matter(99, 2), 99);
        due("the 512th", x.landOn(69, 0, 0), 189);
        AssizeRide y = new AssizeRide();
        for (int i = 0; i < 511; i++) {
            y.order();
        }
        due("the 512th", y.person(5, 9), 0);
        mostChanges();
    }

    private static void feedT(AssizeRide x) {
        x.feed(0x74202020, BLANKS, BLANKS, BLANKS, BLANKS);
    }

    /** 511 calls that change STATES 540 times, of which none is lost. */
    private void mostChanges() {
        AssizeRide x = Clerk.under("deed t = 1; keep t; jury 1; hundred 0; bill 0; land 0; void;");
        x.person(0, 0);
        x.person(0, 0);
        for (int m = 0; m < 10; m++) {
            feedT(x);
            x.crown(0, 0, 0, 0);
            feedT(x);
            x.words(m);
            x.allege(m);
            x.bill(m, 0);
        }
        for (int round = 0; round < 13; round++) {
            for (int m = 0; m < 10; m++) {
                x.draw(m, 0);
                x.hear(m);
                x.keep(m);
            }
            feedT(x);
            due("settled", x.settle(true), 10);
            due("begun again", x.kin(0, 1, 1), 10);
            x.kin(0, 1, 0);
        }
        due("the state of the first", x.stateOn(0, 0, 0), 2);
        due("the state of the last", x.stateOn(9, 0, 0), 2);
    }

    private void onTheClocksDay() {
        AssizeRide x = court();
        x.pass(3);
        Clerk.bringTo(0, x);
        x.pass(2);
        x.bill(0, 0);
        int[] want = {NONE, NONE, NONE, 0, 0, 2, 2};
        for (int day = 0; day < want.length; day++) {
            due("state on " + day, x.stateOn(0, day, 399), want[day]);
        }
        x.draw(0, 0);
        say(x, "a;").hear(0);
        due("of one day the last", x.stateOn(0, 5, 5), 3);
        due("a day ahead", x.stateOn(0, 4, 5), 0);
    }

    private void besideTheChanges() {
        for (int state = 0; state < 10; state++) {
            AssizeRide x = inState(2);
            x.pass(1);
            due("put right to " + state, x.putRight(0, state, 0), 1);
            due("as it is", x.matter(0, 7), 2);
            due("as it was", x.stateOn(0, 0, 1), state);
            due("as it was known", x.stateOn(0, 0, 0), 2);
            due("jurors are drawn still", x.draw(0, 0), 1);
            due("and it is heard", say(x, "a;").hear(0), 3);
            due("counted by what it is", x.count(23), 1);
        }
    }

    private void knownByThen() {
        AssizeRide x = court();
        x.pass(10);
        Clerk.bringTo(0, x);
        x.pass(10);
        x.putRight(0, 8, 15);
        int[][] asked = {{14, 20, 0}, {15, 20, 8}, {16, 20, 8}, {15, 19, 0}, {20, 20, 8}, {399, 399, 8}, {9, 20, NONE}, {10, 20, 0}, {10, 9, NONE}, {10, 10, 0}};
        for (int[] one : asked) {
            due("on " + one[0] + " as known on " + one[1], x.stateOn(0, one[0], one[1]), one[2]);
        }
    }

    private void latestDay() {
        AssizeRide x = court();
        x.pass(5);
        Clerk.bringTo(0, x);
        due("a day ahead of it", x.stateOn(0, 4, 5), NONE);
        x.putRight(0, 7, 3);
        due("from the righting's day on", x.stateOn(0, 3, 5), 7);
        due("a day ahead of that", x.stateOn(0, 2, 5), NONE);
        due("the later day, though told first", x.stateOn(0, 5, 5), 0);
        x.putRight(0, 8, 4);
        due("the day ahead, told last", x.stateOn(0, 4, 5), 8);
        due("the later day still", x.stateOn(0, 5, 5), 0);
        x.putRight(0, 6, 5);
        due("of one day that told last", x.stateOn(0, 5, 5), 6);
        x.bill(0, 0);
        due("a change told last", x.stateOn(0, 5, 5), 2);
        x.putRight(0, 1, 0);
        due("from day 0 on", x.stateOn(0, 0, 5), 1);
        due("up to the next", x.stateOn(0, 2, 5), 1);
        due("which stays", x.stateOn(0, 3, 5), 7);
    }

    private void checkedStates() {
        for (int state = 0; state < 10; state++) {
            due("check in state " + state, inState(state).check(0), state < 3 ? STATE : 0);
        }
        AssizeRide x = inState(7);
        say(x, "t").settle(false);
        due("not guilty by the judges", x.check(0), STATE);
        x.undo(0);
        say(x, "t").settle(true);
        Clerk.hear(x, 0, 1, "");
        due("not guilty by a jury since", x.check(0), 0);
        AssizeRide y = inState(7);
        say(y, "t").settle(true);
        due("judged by the judges", y.check(0), 0);
        for (String facts : new String[] {"a;", ""}) {
            AssizeRide z = sued();
            due("a begun plea", z.check(0), STATE);
            Clerk.hear(z, 0, 1, facts);
            due("a plea in state " + z.matter(0, 7), z.check(0), 0);
        }
    }

    private static AssizeRide sued() {
        AssizeRide x = court();
        say(x, "t").plea(0, 4, 0, 0, 0, 5);
        return x;
    }

    private void badIndictment() {
        for (int state = 3; state < 10; state++) {
            AssizeRide x = inState(state);
            say(x, "words t v;").act(0, 63);
            due("bad since, in state " + state, x.check(0), 1);
        }
        AssizeRide y = sued();
        Clerk.hear(y, 0, 1, "a;");
        say(y, "words t v;").act(0, 63);
        due("a plea has none", y.check(0), 0);
        AssizeRide z = inState(3);
        say(z, "words t v;").act(1, 63);
        due("words of a later day", z.check(0), 0);
    }

    /** MATTER 0 is HEARD on day 5 by person 1, who has 100 pounds where 50 are asked. */
    private static AssizeRide heardOn5() {
        AssizeRide x = court();
        Clerk.bringTo(2, x);
        x.pass(5);
        x.draw(0, 0);
        say(x, "a;").hear(0);
        x.pass(5);
        return x;
    }

    private void barredJuror() {
        for (int pounds = 49; pounds <= 50; pounds++) {
            AssizeRide x = heardOn5();
            x.land(1, pounds, 5);
            due(pounds + " pounds on the day", x.check(0), pounds < 50 ? 2 : 0);
        }
        for (int from = 4; from <= 6; from++) {
            AssizeRide x = heardOn5();
            x.land(1, 0, from);
            due("no land from " + from, x.check(0), from <= 5 ? 2 : 0);
            AssizeRide y = heardOn5();
            y.dead(1, from);
            due("dead from " + from, y.check(0), from <= 5 ? 2 : 0);
        }
        for (int degree = 0; degree <= 4; degree++) {
            AssizeRide x = heardOn5();
            x.kin(1, 0, degree);
            due("kin of degree " + degree, x.check(0), degree == 1 || degree == 2 ? 2 : 0);
        }
        AssizeRide z = heardOn5();
        z.dead(2, 0);
        z.kin(2, 0, 1);
        due("one who was no juror", z.check(0), 0);
    }

    private void otherState() {
        AssizeRide x = inState(3);
        say(x, "deed t = a unless a;").act(0, 63);
        due("guilty, and its indictment is bad first", x.check(0), 1);
        AssizeRide y = Clerk.under(LAW);
        Clerk.settle(y, 5);
        Clerk.indict(y, "t", "w", "a; b;");
        Clerk.hear(y, 0, 1, "a;");
        say(y, "deed t = a and b;").act(0, 63);
        due("guilty, though its facts don't make the deed now", y.check(0), 3);
        y.judge(0);
        due("judged likewise", y.check(0), 3);
        AssizeRide z = Clerk.under(LAW);
        Clerk.settle(z, 5);
        Clerk.indict(z, "t", "w", "a; b;");
        Clerk.hear(z, 0, 1, "b;");
        due("not guilty", z.check(0), 0);
        say(z, "deed t = b;").act(0, 63);
        due("not guilty, though its facts make the deed now", z.check(0), 3);
        AssizeRide w = inState(2);
        say(w, "t").settle(false);
        Clerk.hear(w, 0, 1, "a;");
        due("not guilty by what is settled alone", w.check(0), 3);
        AssizeRide v = sued();
        Clerk.hear(v, 0, 1, "a;");
        say(v, "deed t = c;").act(0, 63);
        due("a plea", v.check(0), 3);
    }

    private void firstOfThese() {
        AssizeRide x = Clerk.under(LAW);
        Clerk.settle(x, 5);
        Clerk.indict(x, "t", "w", "a; b;");
        Clerk.hear(x, 0, 1, "a;");
        say(x, "deed t = a and b;").act(0, 63);
        due("the third", x.check(0), 3);
        x.dead(1, 0);
        due("the second ahead of it", x.check(0), 2);
        say(x, "words t v;").act(0, 63);
        due("the first ahead of both", x.check(0), 1);
    }

    private static AssizeRide onDay5() {
        AssizeRide x = inState(2);
        x.pass(5);
        return x;
    }

    private void rightingBounds() {
        within("state", 0, 9, RANGE, state -> onDay5().putRight(0, state, 0));
        within("from", 0, 5, RANGE, from -> onDay5().putRight(0, 3, from));
        AssizeRide x = onDay5();
        due("from today on", x.putRight(0, 9, 5), 1);
        due("holds today", x.stateOn(0, 5, 5), 9);
        due("not yesterday", x.stateOn(0, 4, 5), 2);
    }

    private void wrongRightings() {
        for (int m : new int[] {LEAST, -1, 1, MOST}) {
            refused("of matter " + m, EdgeWasTest::onDay5, x -> x.putRight(m, 0, 0), RANGE);
        }
        for (int state : new int[] {LEAST, -1, 10, MOST}) {
            refused("to state " + state, EdgeWasTest::onDay5, x -> x.putRight(0, state, 0), RANGE);
        }
        for (int from : new int[] {LEAST, -1, 6, 399, MOST}) {
            refused("from " + from, EdgeWasTest::onDay5, x -> x.putRight(0, 0, from), RANGE);
        }
        AssizeRide y = onDay5();
        due("the first", y.putRight(0, 0, 0), 1);
        due("the same again", y.putRight(0, 0, 0), 2);
    }

    private static AssizeRide righted(int times) {
        AssizeRide x = onDay5();
        say(x, "t").plea(0, 1, 0, 0, 0, 5);
        for (int i = 0; i < times; i++) {
            x.putRight(0, i % 10, 3);
        }
        return x;
    }

    private void rightingsFull() {
        due("the 40th", righted(39).putRight(0, 9, 3), 40);
        refused("the 41st", () -> righted(40), x -> x.putRight(0, 0, 4), FULL);
        refused("the 41st to state 10", () -> righted(40), x -> x.putRight(0, 10, 4), RANGE);
        refused("the 41st from tomorrow on", () -> righted(40), x -> x.putRight(0, 0, 6), RANGE);
        AssizeRide x = righted(40);
        due("the 41st", x.putRight(0, 1, 3), FULL);
        due("holds for nothing", x.stateOn(0, 3, 5), 9);
        due("of another the first", x.putRight(1, 1, 3), 1);
        AssizeRide y = court();
        for (int m = 0; m < 10; m++) {
            feedT(y);
            y.crown(0, 0, 0, 0);
            for (int i = 1; i <= 40; i++) {
                if (y.putRight(m, m, 0) != i) {
                    due("righting " + i + " of " + m, 0, i);
                }
            }
        }
        for (int m = 0; m < 10; m++) {
            due("each of ten by its fortieth", y.stateOn(m, 0, 0), m);
        }
    }

    private void stateStays() {
        AssizeRide x = onDay5();
        x.putRight(0, 9, 5);
        due("its state", x.matter(0, 7), 2);
        due("not to death", x.matter(0, 8), 0);
        due("counted", x.count(22), 1);
        due("not counted", x.count(29), 0);
        due("the next change holds", x.draw(0, 0) == 1 ? say(x, "a;").hear(0) : 0, 3);
        due("told last of one day", x.stateOn(0, 5, 5), 3);
    }

    private void noState() {
        AssizeRide x = court();
        x.pass(5);
        Clerk.bringTo(0, x);
        due("a day ahead", x.stateOn(0, 4, 399), NONE);
        due("on its day", x.stateOn(0, 5, 399), 0);
        due("as known a day ahead", x.stateOn(0, 399, 4), NONE);
        due("as known on its day", x.stateOn(0, 399, 5), 0);
    }

    private void wrongStateOn() {
        within("matter", 0, 0, RANGE, m -> inState(0).stateOn(m, 0, 0));
        within("day", 0, 399, RANGE, day -> inState(0).stateOn(0, day, 0));
        within("known", 0, 399, RANGE, known -> inState(0).stateOn(0, 0, known));
        due("ahead of all matters", court().stateOn(0, 0, 0), RANGE);
    }

    private void wrongChecks() {
        within("matter", 0, 0, RANGE, m -> inState(3).check(m));
        due("ahead of all matters", court().check(0), RANGE);
    }

    private void uncheckedStates() {
        for (int state = 0; state < 3; state++) {
            due("state " + state, inState(state).check(0), STATE);
        }
        AssizeRide x = inState(3);
        x.judge(0);
        x.undo(0);
        due("undone", x.check(0), STATE);
        AssizeRide y = onDay5();
        y.putRight(0, 5, 0);
        due("put right isn't judged", y.check(0), STATE);
    }

    private void countsAtTheirEnds() {
        AssizeRide x = new AssizeRide();
        for (int what = 0; what <= 8; what++) {
            due("count(" + what + ") at first", x.count(what), 0);
        }
        x = court();
        Clerk.bringTo(0, x);
        x.bond(0, 0, 0, 0, 9999);
        x.put(0);
        x.pass(7);
        x.feed(BLANKS, BLANKS, BLANKS, BLANKS, BLANKS);
        int[] want = {7, 5, 5, 1, 1, 1, 9999, 20, 1};
        for (int what = 0; what <= 8; what++) {
            due("count(" + what + ")", x.count(what), want[what]);
        }
        AssizeRide y = Clerk.under("deed t = a; fine t 9999; jury 1; hundred 0; bill 0; land 0;");
        Clerk.settle(y, 2);
        Clerk.bringTo(5, y);
        y.bond(0, 0, 0, 0, 9999);
        y.pass(1);
        due("fines and forfeits together", y.count(6), 19998);
        y.undo(0);
        due("without the fine", y.count(6), 9999);
    }

    private void countsByShireAndState() {
        for (int s = 0; s < 6; s++) {
            AssizeRide x = court();
            x.commit(0, s);
            x.commit(4, s);
            for (int o = 0; o < 6; o++) {
                due("in gaol " + o, x.count(10 + o), s == o ? 2 : 0);
            }
        }
        for (int state = 0; state < 10; state++) {
            AssizeRide x = inState(state);
            for (int k = 0; k < 10; k++) {
                due("of state " + k, x.count(20 + k), state == k ? 1 : 0);
            }
        }
        AssizeRide y = sued();
        due("a plea too", y.count(20), 1);
    }

    private void otherCounts() {
        AssizeRide x = inState(3);
        for (int what : new int[] {LEAST, -10, -1, 9, 16, 17, 18, 19, 30, 31, 100, MOST}) {
            due("count(" + what + ")", x.count(what), NONE);
        }
        Supplier<AssizeRide> made = () -> inState(3);
        refused("count(9)", made, y -> y.count(9), NONE);
    }
}
