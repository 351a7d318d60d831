/** Promises 66 to 69: what is PUT RIGHT, STATES as they were known, CHECKED MATTERS, and counts. */
public final class WhatWasTest {
    private static final Clerk c = new Clerk();
    private static final String LAW = "deed t = a; death t; clergy t; keep t; jury 1; hundred 0; bill 0; land 50; kin 2;"
            + "deed u = a; fine u 5;";

    public static void main(String[] args) {
        rightings();
        statesAsKnown();
        eachChangeIsOnItsDay();
        busiestRun();
        checkedStates();
        checkedByIndictment();
        checkedByJurors();
        checkedByFacts();
        counts();
        c.close();
    }

    private static AssizeRide court() {
        AssizeRide x = Clerk.under(LAW);
        Clerk.settle(x, 5);
        return x;
    }

    private static void rightings() {
        AssizeRide x = court();
        int m = Clerk.say(x, "t").crown(0, 0, 0, 0);
        int n = Clerk.say(x, "t").plea(0, 1, 0, 0, 0, 1);
        x.pass(5);
        c.due("of none", x.putRight(2, 0, 0), Clerk.RANGE);
        c.due("state 10", x.putRight(m, 10, 0), Clerk.RANGE);
        c.due("state -1", x.putRight(m, -1, 0), Clerk.RANGE);
        c.due("a day to come", x.putRight(m, 0, 6), Clerk.RANGE);
        c.due("day -1", x.putRight(m, 0, -1), Clerk.RANGE);
        for (int i = 1; i <= 40; i++) {
            c.due("righting " + i, x.putRight(m, i % 10, i % 6), i);
        }
        c.due("the 41st", x.putRight(m, 0, 0), Clerk.FULL);
        c.due("the 41st, wrong", x.putRight(m, 0, 6), Clerk.RANGE);
        c.due("of another", x.putRight(n, 9, 5), 1);
        c.due("its state now isn't changed", x.matter(m, 7), 0);
        c.due("nor of the plea", x.matter(n, 7), 0);
        c.due("what may be done hangs on that", x.bill(m, 23), 1);
    }

    private static void statesAsKnown() {
        AssizeRide x = court();
        x.pass(3);
        int m = Clerk.say(x, "t").crown(0, 0, 0, 0);
        Clerk.say(x, "w").words(m);
        Clerk.say(x, "a;").allege(m);
        c.due("ahead of it", x.stateOn(m, 2, 3), Clerk.NONE);
        c.due("begun", x.stateOn(m, 3, 3), 0);
        c.due("not known yet", x.stateOn(m, 3, 2), Clerk.NONE);
        x.pass(2);
        x.bill(m, 23);
        c.due("begun until then", x.stateOn(m, 4, 5), 0);
        c.due("true bill", x.stateOn(m, 5, 5), 2);
        c.due("as known before", x.stateOn(m, 5, 4), 0);
        c.due("later on", x.stateOn(m, 399, 399), 2);
        x.draw(m, 0);
        Clerk.say(x, "a;").hear(m);
        c.due("of one day, told last", x.stateOn(m, 5, 5), 3);
        x.pass(2);
        x.putRight(m, 6, 4);
        c.due("put right", x.stateOn(m, 4, 7), 6);
        c.due("ahead of that", x.stateOn(m, 3, 7), 0);
        c.due("behind it the later day counts", x.stateOn(m, 5, 7), 3);
        c.due("not known before", x.stateOn(m, 4, 6), 0);
        x.putRight(m, 7, 5);
        c.due("of one day, told last", x.stateOn(m, 5, 7), 7);
        x.putRight(m, 8, 5);
        c.due("righted twice", x.stateOn(m, 6, 7), 8);
        x.judge(m);
        c.due("today's change", x.stateOn(m, 7, 7), 5);
        x.putRight(m, 1, 7);
        c.due("today's righting", x.stateOn(m, 7, 7), 1);
        c.due("of none", x.stateOn(1, 0, 0), Clerk.RANGE);
        c.due("day 400", x.stateOn(m, 400, 0), Clerk.RANGE);
        c.due("day -1", x.stateOn(m, -1, 0), Clerk.RANGE);
        c.due("known 400", x.stateOn(m, 0, 400), Clerk.RANGE);
        c.due("known -1", x.stateOn(m, 0, -1), Clerk.RANGE);
    }

    /** A day passes ahead of every change, so that each day's STATE is another. */
    private static void eachChangeIsOnItsDay() {
        AssizeRide x = court();
        int m = Clerk.indict(x, "t", "w", "a;");
        int[] want = {2, 3, 5, 6, 2, 3, 5, 8, 9};
        x.pass(1);
        Clerk.hear(x, m, 1, "a;");
        x.pass(1);
        x.judge(m);
        x.pass(1);
        x.benefit(m);
        x.pass(1);
        x.undo(m);
        x.pass(1);
        Clerk.hear(x, m, 1, "a;");
        x.pass(1);
        x.judge(m);
        x.pass(1);
        x.pardon(m, 1, 20);
        x.pass(1);
        x.seen(0, 1);
        for (int day = 0; day < want.length; day++) {
            c.due("state on " + day, x.stateOn(m, day, 399), want[day]);
        }
        int k = Clerk.indict(x, "t", "w", "a;");
        int n = Clerk.indict(x, "t", "w", "a;");
        Clerk.hear(x, k, 1, "a;");
        Clerk.hear(x, n, 1, "a;");
        x.pass(1);
        x.keep(k);
        x.keep(n);
        x.pass(1);
        Clerk.say(x, "t").settle(false);
        Clerk.hear(x, Clerk.indict(x, "t", "w", "a;"), 1, "a;");
        c.due("kept on its day", x.stateOn(k, 9, 10), 7);
        c.due("guilty ahead of it", x.stateOn(k, 8, 10), 3);
        c.due("settled on its day", x.stateOn(n, 10, 10), 4);
        x.pass(1);
        x.undo(n);
        Clerk.say(x, "t").settle(true);
        Clerk.hear(x, n, 1, "a;");
        x.pass(1);
        x.keep(n);
        x.pass(1);
        Clerk.say(x, "t").settle(true);
        c.due("kept until then", x.stateOn(n, 12, 13), 7);
        c.due("settled as one on its day", x.stateOn(n, 13, 13), 5);
        c.due("nothing ahead of its beginning", x.stateOn(n, 7, 13), Clerk.NONE);
    }

    private static int indict(AssizeRide x) {
        return Clerk.indict(x, "t", "w", "a;");
    }

    /** Nearly 512 calls in which settle() and kin() change all MATTERS again and again: no change is lost. */
    private static void busiestRun() {
        AssizeRide x = Clerk.under("deed t = 1; keep t; jury 1; hundred 0; bill 0; land 0; void;");
        x.person(0, 0);
        x.person(0, 0);
        for (int m = 0; m < 16; m++) {
            x.feed(0x74202020, 0x20202020, 0x20202020, 0x20202020, 0x20202020);
            x.crown(0, 0, 0, 0);
            x.feed(0x74202020, 0x20202020, 0x20202020, 0x20202020, 0x20202020);
            x.words(m);
            x.allege(m);
            c.due("bill " + m, x.bill(m, 0), 2);
        }
        for (int round = 1; round <= 7; round++) {
            for (int m = 0; m < 16; m++) {
                x.draw(m, 0);
                x.hear(m);
                x.keep(m);
            }
            x.feed(0x74202020, 0x20202020, 0x20202020, 0x20202020, 0x20202020);
            c.due("settled in round " + round, x.settle(true), 16);
            x.pass(1);
            c.due("begun again in round " + round, x.kin(0, 1, 1), 16);
            x.kin(0, 1, 0);
            x.pass(1);
        }
        x.draw(15, 0);
        c.due("the last hearing", x.hear(15), 3);
        for (int round = 1; round <= 7; round++) {
            c.due("settled on the first day of round " + round, x.stateOn(0, 2 * round - 2, 399), 5);
            c.due("begun again on the second day of round " + round, x.stateOn(15, 2 * round - 1, 399), 2);
        }
        c.due("the latest change", x.stateOn(15, 14, 14), 3);
        c.due("and of another", x.stateOn(14, 14, 14), 2);
    }

    private static void checkedStates() {
        AssizeRide x = court();
        c.due("of none", x.check(0), Clerk.RANGE);
        int m = Clerk.say(x, "t").crown(0, 0, 0, 0);
        c.due("begun", x.check(m), Clerk.STATE);
        x.bill(m, 0);
        c.due("no bill", x.check(m), Clerk.STATE);
        int n = indict(x);
        c.due("true bill", x.check(n), Clerk.STATE);
        Clerk.hear(x, n, 1, "a;");
        c.due("guilty", x.check(n), 0);
        x.judge(n);
        c.due("judged", x.check(n), 0);
        x.pardon(n, 1, 0);
        c.due("pardoned", x.check(n), 0);
        x.seen(0, 1);
        c.due("broken", x.check(n), 0);
        int b = indict(x);
        Clerk.hear(x, b, 1, "a;");
        x.judge(b);
        x.benefit(b);
        c.due("benefit", x.check(b), 0);
        int k = indict(x);
        Clerk.hear(x, k, 1, "a;");
        x.keep(k);
        c.due("kept", x.check(k), 0);
        Clerk.say(x, "t").settle(false);
        c.due("not guilty, but by no jury", x.check(k), Clerk.STATE);
        x.undo(k);
        Clerk.hear(x, k, 1, "");
        c.due("not guilty by a jury", x.check(k), 0);
        int p = Clerk.say(x, "t").plea(0, 1, 0, 0, 0, 1);
        c.due("a begun plea", x.check(p), Clerk.STATE);
        Clerk.hear(x, p, 1, "a;");
        c.due("a plea judged", x.check(p), 0);
        x.undo(p);
        Clerk.hear(x, p, 1, "");
        c.due("a plea not guilty", x.check(p), 0);
    }

    private static void checkedByIndictment() {
        AssizeRide x = court();
        int m = indict(x);
        Clerk.hear(x, m, 1, "a;");
        int p = Clerk.say(x, "t").plea(0, 1, 0, 0, 0, 1);
        Clerk.hear(x, p, 1, "a;");
        x.dead(1, 0);
        Clerk.say(x, "words t y;").act(0, 63);
        c.due("bad by a later act", x.check(m), 1);
        c.due("a plea has none", x.check(p), 0);
        Clerk.say(x, "strike 1;").act(0, 63);
        c.due("then a juror", x.check(m), 2);
    }

    private static void checkedByJurors() {
        AssizeRide x = court();
        x.pass(2);
        int m = indict(x);
        Clerk.swear(x, m, 1);
        x.pass(2);
        Clerk.say(x, "a;").hear(m);
        x.pass(2);
        x.dead(1, 5);
        c.due("dead behind it", x.check(m), 0);
        x.land(1, 10, 5);
        c.due("land behind it", x.check(m), 0);
        x.land(1, 10, 3);
        c.due("no land on that day", x.check(m), 2);
        x.land(1, 50, 4);
        c.due("land on that day", x.check(m), 0);
        x.kin(1, 0, 3);
        c.due("far kin", x.check(m), 0);
        x.kin(1, 0, 2);
        c.due("kin", x.check(m), 2);
        x.kin(1, 0, 0);
        c.due("no kin", x.check(m), 0);
        x.dead(1, 4);
        c.due("dead on that day", x.check(m), 2);
    }

    private static void checkedByFacts() {
        AssizeRide x = court();
        int m = indict(x);
        Clerk.hear(x, m, 1, "a; b;");
        int n = indict(x);
        Clerk.hear(x, n, 1, "");
        int k = indict(x);
        Clerk.say(x, "t").settle(false);
        c.due("settled as none", Clerk.hear(x, k, 1, "a;"), 4);
        c.due("its facts make it guilty", x.check(k), 3);
        Clerk.say(x, "deed t = a unless b;").act(0, 63);
        c.due("guilty, but not made", x.check(m), 3);
        c.due("not guilty, not made", x.check(n), 0);
        Clerk.say(x, "deed t = a or a is 0;").act(0, 63);
        c.due("guilty and made", x.check(m), 0);
        c.due("not guilty, but made", x.check(n), 3);
        int p = Clerk.say(x, "u").plea(0, 1, 0, 0, 0, 1);
        Clerk.hear(x, p, 1, "a;");
        Clerk.say(x, "strike 0 u;").act(0, 63);
        c.due("a plea whose deed is gone", x.check(p), 3);
        x.undo(p);
        Clerk.hear(x, p, 1, "a;");
        c.due("not guilty without a deed", x.check(p), 0);
    }

    private static void counts() {
        AssizeRide x = court();
        x.pass(4);
        indict(x);
        Clerk.say(x, "t").plea(0, 1, 0, 0, 0, 1);
        x.bond(0, 0, 4, 9, 12);
        x.put(1);
        x.commit(2, 5);
        x.pass(6);
        Clerk.say(x, "abc");
        int[] want = {10, 5, 5, 1, 2, 1, 12, 3, 1};
        for (int what = 0; what < 9; what++) {
            c.due("count " + what, x.count(what), want[what]);
        }
        c.due("count 9", x.count(9), Clerk.NONE);
        c.due("count -1", x.count(-1), Clerk.NONE);
        for (int s = 0; s < 6; s++) {
            c.due("prisoners of " + s, x.count(10 + s), s == 5 ? 1 : 0);
        }
        for (int what = 16; what < 20; what++) {
            c.due("count " + what, x.count(what), Clerk.NONE);
        }
        for (int state = 0; state < 10; state++) {
            c.due("of state " + state, x.count(20 + state), state == 0 || state == 2 ? 1 : 0);
        }
        c.due("count 30", x.count(30), Clerk.NONE);
    }
}
