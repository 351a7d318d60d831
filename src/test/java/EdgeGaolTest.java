import java.util.function.Supplier;

/** Boundary cases of PRISONERS and BONDS: Terms V, promises 44 to 51. */
public final class EdgeGaolTest extends Edges {
    public static void main(String[] args) {
        new EdgeGaolTest().test();
    }

    @Override
    void sentences() {
        in("V");
        edge("PRISONERS: each in one GAOL (of a SHIRE) at most", this::oneGaol);
        edge("each, by number, is freed, if no CROWN MATTER against them is OPEN, or JUDGED to death, BROKEN", this::whoIsFreed);
        edge("the others are LEFT, each by the first such MATTER", this::whoIsLeft);
        edge("WAITED: days in gaols (each from the day of coming to that of being freed, or the CLOCK's)", this::waited);
        edge("BONDS, at most 80", this::mostBonds);
        edge("must be in a SHIRE on some day from .. to, or owe pounds", this::fromTo);
        edge("A BOND is MET, if they were SEEN there from .. to", this::seenThere);
        edge("FORFEIT, if the CLOCK is behind to and it isn't met: its pounds are in the CROWN's chest then", this::forfeit);
        edge("(not if they were DEAD on its to, as KNOWN as it ran out)", this::deadOnIts);
        in("44");
        edge("how many are in it; RANGE", this::wrongCommits);
        edge("STATE: they are in one", this::inOne);
        in("45");
        edge("the SHIRE whose GAOL it was; RANGE", this::wrongBails);
        edge("STATE: they are in none", this::inNone);
        in("46");
        edge("how many are freed; RANGE", this::wrongDeliveries);
        in("47");
        edge("NONE when there is none such", this::leftNone);
        in("48");
        edge("In whose SHIRE's GAOL one is, what 0 (NONE)", this::whoseGaol);
        edge("days WAITED, what 1; RANGE", this::wrongPrisoners);
        in("49");
        edge("(to not behind 399, not below from, not below the CLOCK's day; pounds 1 .. 9999)", this::bondBounds);
        edge("its number; RANGE", this::wrongBonds);
        edge("FULL", this::bondsFull);
        in("50");
        edge("how many BONDS are MET by that, 100 more for each PARDON that is BROKEN", this::howManyMet);
        edge("RANGE", this::wrongSeen);
        in("51");
        edge("5: 0 it runs, 1 MET, 2 FORFEIT, 3 neither, they were DEAD", this::statesOfABond);
        edge("NONE when there is none such", this::bondedNone);
    }

    private static AssizeRide people() {
        AssizeRide x = new AssizeRide();
        Clerk.settle(x, 4);
        return x;
    }

    private static AssizeRide onDay10() {
        AssizeRide x = people();
        x.pass(10);
        return x;
    }

    private void oneGaol() {
        AssizeRide x = people();
        due("in gaol 0", x.commit(0, 0), 1);
        due("not in 1 too", x.commit(0, 1), STATE);
        due("nor in 0 again", x.commit(0, 0), STATE);
        due("gaol 0 has one", x.count(10), 1);
        due("gaol 1 has none", x.count(11), 0);
        x.bail(0);
        due("let out, in 1", x.commit(0, 1), 1);
        due("gaol 0 has none", x.count(10), 0);
    }

    private static AssizeRide inState(int state) {
        AssizeRide x = Clerk.under("deed t = a; death t; clergy t; keep t; jury 1; hundred 0; bill 0; land 0;");
        Clerk.settle(x, 4);
        return Clerk.bringTo(state, x);
    }

    private void whoIsFreed() {
        for (int state = 0; state < 10; state++) {
            boolean isHeld = state == 0 || state == 2 || state == 3 || state == 7 || state == 5 || state == 9;
            AssizeRide x = inState(state);
            x.commit(0, 3);
            due("accused in state " + state, x.deliver(3), isHeld ? 0 : 1);
            due("in gaol then", x.prisoner(0, 0), isHeld ? 3 : NONE);
            due("left then", x.left(0, 0), isHeld ? 0 : NONE);
        }
        AssizeRide fined = Clerk.under("deed t = a; fine t 3; jury 1; hundred 0; bill 0; land 0;");
        Clerk.settle(fined, 4);
        Clerk.bringTo(5, fined);
        fined.commit(0, 3);
        due("judged to a fine", fined.deliver(3), 1);
        AssizeRide sued = Clerk.under("deed t = a; jury 1; hundred 0; land 0;");
        Clerk.settle(sued, 4);
        say(sued, "t").plea(0, 1, 0, 0, 0, 5);
        sued.commit(0, 3);
        sued.commit(1, 3);
        due("parties of a plea", sued.deliver(3), 2);
        AssizeRide y = inState(0);
        y.witness(0, 1);
        y.commit(1, 3);
        due("a witness", y.deliver(3), 1);
    }

    private void whoIsLeft() {
        AssizeRide x = inState(1);
        say(x, "t").crown(2, 0, 0, 0);
        say(x, "t").crown(0, 0, 0, 0);
        say(x, "t").crown(0, 0, 0, 0);
        for (int p = 3; p >= 0; p--) {
            x.commit(p, 0);
        }
        due("freed", x.deliver(0), 2);
        due("the first who is left", x.left(0, 0), 0);
        due("by the first that holds", x.left(0, 1), 2);
        due("the second", x.left(1, 0), 2);
        due("by", x.left(1, 1), 1);
        due("no third", x.left(2, 0), NONE);
    }

    private void waited() {
        AssizeRide x = people();
        due("never in gaol", x.prisoner(0, 1), 0);
        x.commit(0, 0);
        due("on the day of coming", x.prisoner(0, 1), 0);
        x.pass(1);
        due("a day later", x.prisoner(0, 1), 1);
        x.deliver(0);
        x.pass(9);
        due("freed", x.prisoner(0, 1), 1);
        x.commit(0, 5);
        due("in gaol again", x.prisoner(0, 1), 1);
        x.bail(0);
        due("let out on the same day", x.prisoner(0, 1), 1);
        x.commit(0, 4);
        x.pass(100);
        due("a hundred days more", x.prisoner(0, 1), 101);
        AssizeRide y = people();
        y.commit(0, 0);
        y.pass(100);
        y.pass(100);
        y.pass(100);
        y.pass(99);
        due("all days", y.prisoner(0, 1), 399);
    }

    private static AssizeRide bound(int bonds) {
        AssizeRide x = people();
        for (int b = 0; b < bonds; b++) {
            x.bond(0, 0, 0, 0, 1);
        }
        return x;
    }

    private void mostBonds() {
        AssizeRide x = people();
        for (int b = 0; b < 80; b++) {
            due("bond", x.bond(1, 2, 0, 0, b + 1), b);
        }
        due("the 81st", x.bond(1, 2, 0, 0, 1), FULL);
        due("bonds", x.count(5), 80);
        due("pounds of the last", x.bonded(79, 4), 80);
        due("no 81st", x.bonded(80, 0), NONE);
        x.pass(1);
        due("all are forfeit", x.count(6), 80 * 81 / 2);
    }

    /** A BOND of days 12 to 14 told on day 10, seen on a day. */
    private void fromTo() {
        for (int day = 11; day <= 15; day++) {
            AssizeRide x = onDay10();
            x.bond(0, 1, 12, 14, 7);
            x.pass(day - 10);
            boolean isWithin = day >= 12 && day <= 14;
            due("seen on " + day, x.seen(0, 1), isWithin ? 1 : 0);
            due("state on " + day, x.bonded(0, 5), isWithin ? 1 : day < 12 ? 0 : 2);
            due("owed on " + day, x.count(6), day > 14 ? 7 : 0);
        }
    }

    private void seenThere() {
        AssizeRide x = onDay10();
        x.bond(0, 1, 10, 10, 7);
        due("seen elsewhere", x.seen(0, 0), 0);
        due("another is seen", x.seen(1, 1), 0);
        due("runs", x.bonded(0, 5), 0);
        due("seen there", x.seen(0, 1), 1);
        due("met", x.bonded(0, 5), 1);
        due("once", x.seen(0, 1), 0);
        x.pass(1);
        due("met still", x.bonded(0, 5), 1);
        due("nothing is owed", x.count(6), 0);
        AssizeRide y = onDay10();
        y.bond(0, 1, 0, 10, 7);
        due("from an earlier day", y.seen(0, 1), 1);
    }

    private void forfeit() {
        AssizeRide x = onDay10();
        x.bond(0, 1, 10, 12, 9999);
        x.bond(1, 1, 10, 13, 1);
        x.pass(2);
        due("on its last day", x.bonded(0, 5), 0);
        due("nothing is owed", x.count(6), 0);
        x.pass(1);
        due("behind it", x.bonded(0, 5), 2);
        due("owed", x.count(6), 9999);
        due("the other runs", x.bonded(1, 5), 0);
        due("seen too late", x.seen(0, 1), 0);
        due("forfeit still", x.bonded(0, 5), 2);
        x.pass(100);
        due("both", x.count(6), 10000);
        AssizeRide y = people();
        y.pass(100);
        y.pass(100);
        y.pass(100);
        y.bond(0, 0, 0, 399, 5);
        y.pass(99);
        due("one of the last day never runs out", y.bonded(0, 5), 0);
        due("a pass that is refused", y.pass(1), RANGE);
        due("changes nothing of it", y.count(6), 0);
    }

    private void deadOnIts() {
        for (int from = 11; from <= 13; from++) {
            AssizeRide x = onDay10();
            x.bond(0, 1, 10, 12, 7);
            x.dead(0, from);
            x.dead(1, 0);
            x.pass(3);
            due("dead from " + from, x.bonded(0, 5), from <= 12 ? 3 : 2);
            due("owed", x.count(6), from <= 12 ? 0 : 7);
        }
        AssizeRide y = onDay10();
        y.bond(0, 1, 10, 12, 7);
        y.pass(2);
        y.dead(0, 12);
        y.pass(1);
        due("told on its last day", y.bonded(0, 5), 3);
        AssizeRide z = onDay10();
        z.bond(0, 1, 10, 12, 7);
        z.pass(3);
        z.dead(0, 0);
        due("told when it had run out", z.bonded(0, 5), 2);
        due("is owed", z.count(6), 7);
        AssizeRide w = onDay10();
        w.bond(0, 1, 10, 12, 7);
        w.dead(0, 0);
        due("the dead are seen", w.seen(0, 1), 1);
        w.pass(3);
        due("and have met it", w.bonded(0, 5), 1);
    }

    private void wrongCommits() {
        for (int p : new int[] {LEAST, -1, 4, MOST}) {
            refused("commit " + p, EdgeGaolTest::people, x -> x.commit(p, 0), RANGE);
        }
        for (int shire : new int[] {LEAST, -1, 6, MOST}) {
            refused("commit to " + shire, EdgeGaolTest::people, x -> x.commit(0, shire), RANGE);
        }
        due("the ends of both", people().commit(3, 5), 1);
        AssizeRide y = people();
        for (int p = 0; p < 4; p++) {
            due("commit " + p, y.commit(p, 5), p + 1);
        }
    }

    private static AssizeRide gaoled() {
        AssizeRide x = onDay10();
        x.commit(0, 0);
        x.commit(3, 5);
        return x;
    }

    private void inOne() {
        refused("0 in another", EdgeGaolTest::gaoled, x -> x.commit(0, 5), STATE);
        refused("3 in the same", EdgeGaolTest::gaoled, x -> x.commit(3, 5), STATE);
        due("RANGE ahead of STATE", gaoled().commit(0, 6), RANGE);
    }

    private void wrongBails() {
        for (int p : new int[] {LEAST, -1, 4, MOST}) {
            refused("bail of " + p, EdgeGaolTest::gaoled, x -> x.bail(p), RANGE);
        }
        due("of gaol 0", gaoled().bail(0), 0);
        due("of gaol 5", gaoled().bail(3), 5);
    }

    private void inNone() {
        refused("of a free one", EdgeGaolTest::gaoled, x -> x.bail(1), STATE);
        AssizeRide x = gaoled();
        x.bail(0);
        due("not twice", x.bail(0), STATE);
        x.deliver(5);
        due("of one who was freed", x.bail(3), STATE);
    }

    private static AssizeRide delivered() {
        AssizeRide x = inState(2);
        x.commit(0, 0);
        x.commit(1, 0);
        x.commit(2, 5);
        x.deliver(0);
        return x;
    }

    private void wrongDeliveries() {
        for (int shire : new int[] {LEAST, -1, 6, MOST}) {
            refused("deliver " + shire, EdgeGaolTest::delivered, x -> x.deliver(shire), RANGE);
        }
        due("an empty gaol", delivered().deliver(1), 0);
        due("gaol 5", delivered().deliver(5), 1);
        due("gaol 0 again", delivered().deliver(0), 0);
        AssizeRide x = new AssizeRide();
        for (int p = 0; p < 120; p++) {
            x.person(0, 0);
            x.commit(p, 2);
        }
        due("as many as there are", x.deliver(2), 120);
    }

    private void leftNone() {
        due("ahead of any", people().left(0, 0), NONE);
        within("i", 0, 0, NONE, i -> delivered().left(i, 0));
        within("what", 0, 1, NONE, what -> delivered().left(0, what));
        AssizeRide x = delivered();
        x.deliver(1);
        due("by the latest, which left none", x.left(0, 0), NONE);
    }

    private void whoseGaol() {
        due("in gaol 0", gaoled().prisoner(0, 0), 0);
        due("in gaol 5", gaoled().prisoner(3, 0), 5);
        due("in none", gaoled().prisoner(1, 0), NONE);
    }

    private void wrongPrisoners() {
        within("who, in which gaol", 0, 3, RANGE, p -> gaoled().prisoner(p, 0));
        within("who, how long", 0, 3, RANGE, p -> gaoled().prisoner(p, 1));
        within("what", 0, 1, RANGE, what -> gaoled().prisoner(0, what));
    }

    private void bondBounds() {
        within("to", 10, 399, RANGE, to -> onDay10().bond(0, 0, 0, to, 5));
        within("to of one from 20", 20, 399, RANGE, to -> onDay10().bond(0, 0, 20, to, 5));
        within("from of one to 20", 0, 20, RANGE, from -> onDay10().bond(0, 0, from, 20, 5));
        within("pounds", 1, 9999, RANGE, pounds -> onDay10().bond(0, 0, 10, 10, pounds));
        due("of one day", onDay10().bond(0, 0, 10, 10, 1), 0);
        due("of the last day", onDay10().bond(0, 0, 399, 399, 1), 0);
    }

    private void wrongBonds() {
        Supplier<AssizeRide> made = () -> {
            AssizeRide x = onDay10();
            x.bond(0, 0, 10, 10, 5);
            return x;
        };
        for (int p : new int[] {LEAST, -1, 4, MOST}) {
            refused("bond of " + p, made, x -> x.bond(p, 0, 10, 10, 5), RANGE);
        }
        for (int shire : new int[] {LEAST, -1, 6, MOST}) {
            refused("bond in " + shire, made, x -> x.bond(0, shire, 10, 10, 5), RANGE);
        }
        refused("to 400", made, x -> x.bond(0, 0, 10, 400, 5), RANGE);
        refused("to below from", made, x -> x.bond(0, 0, 12, 11, 5), RANGE);
        refused("to below the clock's day", made, x -> x.bond(0, 0, 8, 9, 5), RANGE);
        refused("from below 0", made, x -> x.bond(0, 0, -1, 10, 5), RANGE);
        refused("no pounds", made, x -> x.bond(0, 0, 10, 10, 0), RANGE);
        refused("10000 pounds", made, x -> x.bond(0, 0, 10, 10, 10000), RANGE);
        due("the next number", made.get().bond(3, 5, 10, 10, 5), 1);
    }

    private void bondsFull() {
        due("the 80th", bound(79).bond(0, 0, 0, 0, 1), 79);
        refused("the 81st", () -> bound(80), x -> x.bond(0, 0, 0, 0, 1), FULL);
        refused("the 81st of no pounds", () -> bound(80), x -> x.bond(0, 0, 0, 0, 0), RANGE);
        refused("the 81st of nobody", () -> bound(80), x -> x.bond(4, 0, 0, 0, 1), RANGE);
        AssizeRide y = bound(80);
        y.seen(0, 0);
        due("met ones keep their room", y.bond(0, 0, 0, 0, 1), FULL);
    }

    private void howManyMet() {
        due("none", people().seen(0, 0), 0);
        due("one", bound(1).seen(0, 0), 1);
        due("eighty", bound(80).seen(0, 0), 80);
        AssizeRide x = Clerk.under("deed t = a; death t; jury 1; hundred 0; bill 0; land 0;");
        Clerk.settle(x, 2);
        for (int m = 0; m < 3; m++) {
            Clerk.indict(x, "t", "w", "a;");
            Clerk.hear(x, m, 1, "a;");
            x.judge(m);
            x.pardon(m, m == 2 ? 1 : 0, 9);
        }
        x.bond(0, 0, 0, 5, 1);
        due("two pardons and a bond", x.seen(0, 0), 201);
        due("none more", x.seen(0, 0), 0);
        due("the third elsewhere", x.seen(0, 1), 100);
    }

    private void wrongSeen() {
        for (int p : new int[] {LEAST, -1, 4, MOST}) {
            refused("seen " + p, () -> bound(2), x -> x.seen(p, 0), RANGE);
        }
        for (int shire : new int[] {LEAST, -1, 6, MOST}) {
            refused("seen in " + shire, () -> bound(2), x -> x.seen(0, shire), RANGE);
        }
        due("the ends of both", bound(2).seen(3, 5), 0);
    }

    private void statesOfABond() {
        AssizeRide x = people();
        for (int b = 0; b < 4; b++) {
            x.bond(b, 5, 0, b == 3 ? 9 : 4, 100);
        }
        x.seen(0, 5);
        x.dead(1, 4);
        x.pass(5);
        int[] want = {1, 3, 2, 0};
        for (int b = 0; b < 4; b++) {
            due("bond " + b, x.bonded(b, 5), want[b]);
        }
        due("chest", x.count(6), 100);
    }

    private void bondedNone() {
        due("ahead of any", people().bonded(0, 0), NONE);
        within("bond", 0, 1, NONE, b -> bound(2).bonded(b, 0));
        within("what", 0, 5, NONE, what -> bound(2).bonded(0, what));
        int[] want = {3, 5, 0, 399, 9999, 0};
        AssizeRide x = people();
        x.bond(3, 5, 0, 399, 9999);
        for (int what = 0; what < 6; what++) {
            due("what " + what, x.bonded(0, what), want[what]);
        }
    }
}
