/** Promises 44 to 51: PRISONERS, who is LEFT, and BONDS. */
public final class GaolTest {
    private static final Clerk c = new Clerk();

    public static void main(String[] args) {
        committing();
        delivering();
        bonds();
        bondsRunOut();
        bondsAreLimited();
        c.close();
    }

    private static void committing() {
        AssizeRide x = new AssizeRide();
        Clerk.settle(x, 3);
        x.pass(2);
        c.due("nobody", x.commit(3, 0), Clerk.RANGE);
        c.due("shire 6", x.commit(0, 6), Clerk.RANGE);
        c.due("shire -1", x.commit(0, -1), Clerk.RANGE);
        c.due("free", x.prisoner(0, 0), Clerk.NONE);
        c.due("waited none", x.prisoner(0, 1), 0);
        c.due("first", x.commit(0, 4), 1);
        c.due("second", x.commit(2, 4), 2);
        c.due("elsewhere", x.commit(1, 0), 1);
        c.due("in one already", x.commit(0, 1), Clerk.STATE);
        c.due("where", x.prisoner(0, 0), 4);
        c.due("in gaol 4", x.count(14), 2);
        c.due("in gaol 0", x.count(10), 1);
        c.due("in gaol 5", x.count(15), 0);
        x.pass(3);
        c.due("waited", x.prisoner(0, 1), 3);
        c.due("bail", x.bail(0), 4);
        c.due("free", x.prisoner(0, 0), Clerk.NONE);
        c.due("bail of a free one", x.bail(0), Clerk.STATE);
        c.due("bail of nobody", x.bail(3), Clerk.RANGE);
        x.pass(4);
        c.due("waits no more", x.prisoner(0, 1), 3);
        x.commit(0, 1);
        x.pass(5);
        c.due("waited in both", x.prisoner(0, 1), 8);
        c.due("waited all along", x.prisoner(1, 1), 12);
        c.due("what 2", x.prisoner(0, 2), Clerk.RANGE);
        c.due("what -1", x.prisoner(0, -1), Clerk.RANGE);
        c.due("prisoner nobody", x.prisoner(3, 0), Clerk.RANGE);
    }

    private static void delivering() {
        AssizeRide x = Clerk.under("deed t = a; death t; keep t; clergy t; deed b = a; fine b 1; bill 0; jury 1; hundred 0;");
        Clerk.settle(x, 12);
        c.due("left ahead of any", x.left(0, 0), Clerk.NONE);
        int begun = crownOf(x, 10, "t", 0);
        crownOf(x, 1, "t", 1);
        int trueBill = crownOf(x, 2, "t", 2);
        int guilty = crownOf(x, 3, "t", 3);
        crownOf(x, 4, "t", 4);
        int death = crownOf(x, 5, "t", 5);
        crownOf(x, 6, "b", 5);
        int kept = crownOf(x, 7, "t", 7);
        crownOf(x, 8, "t", 8);
        int broken = crownOf(x, 9, "t", 9);
        crownOf(x, 9, "t", 0);
        Clerk.say(x, "t").plea(0, 1, 0, 0, 0, 5);
        for (int p = 10; p > 0; p--) {
            x.commit(p, 2);
        }
        x.commit(11, 3);
        x.pass(6);
        c.due("shire 6", x.deliver(6), Clerk.RANGE);
        c.due("shire -1", x.deliver(-1), Clerk.RANGE);
        c.due("freed", x.deliver(2), 4);
        int[] who = {2, 3, 5, 7, 9, 10};
        int[] by = {trueBill, guilty, death, kept, broken, begun};
        for (int i = 0; i < who.length; i++) {
            c.due("left " + i, x.left(i, 0), who[i]);
            c.due("left by " + i, x.left(i, 1), by[i]);
        }
        c.due("left 6", x.left(6, 0), Clerk.NONE);
        c.due("left -1", x.left(-1, 0), Clerk.NONE);
        c.due("left what 2", x.left(0, 2), Clerk.NONE);
        c.due("left what -1", x.left(0, -1), Clerk.NONE);
        c.due("in gaol", x.count(12), 6);
        c.due("elsewhere stays", x.count(13), 1);
        c.due("waited", x.prisoner(1, 1), 6);
        x.pass(1);
        c.due("freed waits no more", x.prisoner(1, 1), 6);
        c.due("left waits on", x.prisoner(2, 1), 7);
        c.due("an empty gaol", x.deliver(0), 0);
        c.due("left none", x.left(0, 0), Clerk.NONE);
        c.due("the last one", x.deliver(3), 1);
        x.commit(0, 0);
        c.due("person 0, whom nobody accuses", x.deliver(0), 1);
        x.deliver(2);
        x.deliver(7);
        c.due("a wrong one changes nothing", x.left(0, 0), 2);
    }

    /** A CROWN MATTER of one, brought to: 0 begun, 1 no bill, 2, 3 guilty, 4 not, 5, 7, 8 pardoned, 9 broken. */
    private static int crownOf(AssizeRide x, int p, String deed, int state) {
        int m = Clerk.say(x, deed).crown(p, 0, 0, 0);
        Clerk.say(x, "w").words(m);
        Clerk.say(x, "a;").allege(m);
        if (state == 0) {
            return m;
        }
        if (state == 1) {
            Clerk.say(x, "b;").allege(m);
        }
        x.bill(m, 0);
        if (state < 3) {
            return m;
        }
        Clerk.hear(x, m, 1, state == 4 ? "" : "a;");
        if (state == 7) {
            x.keep(m);
        }
        if (state == 5 || state > 7) {
            x.judge(m);
        }
        if (state > 7) {
            x.pardon(m, state == 9 ? 1 : 2, 9);
            x.seen(p, 1);
        }
        return m;
    }

    private static void bonds() {
        AssizeRide x = new AssizeRide();
        Clerk.settle(x, 2);
        x.pass(10);
        c.due("nobody", x.bond(2, 0, 10, 12, 5), Clerk.RANGE);
        c.due("shire", x.bond(0, 6, 10, 12, 5), Clerk.RANGE);
        c.due("from -1", x.bond(0, 0, -1, 12, 5), Clerk.RANGE);
        c.due("to 400", x.bond(0, 0, 10, 400, 5), Clerk.RANGE);
        c.due("to below from", x.bond(0, 0, 12, 11, 5), Clerk.RANGE);
        c.due("to below today", x.bond(0, 0, 8, 9, 5), Clerk.RANGE);
        c.due("no pounds", x.bond(0, 0, 10, 12, 0), Clerk.RANGE);
        c.due("pounds 10000", x.bond(0, 0, 10, 12, 10000), Clerk.RANGE);
        c.due("bond", x.bond(1, 3, 12, 14, 9999), 0);
        int[] want = {1, 3, 12, 14, 9999, 0};
        for (int what = 0; what < 6; what++) {
            c.due("bonded " + what, x.bonded(0, what), want[what]);
        }
        c.due("what 6", x.bonded(0, 6), Clerk.NONE);
        c.due("what -1", x.bonded(0, -1), Clerk.NONE);
        c.due("bond 1", x.bonded(1, 0), Clerk.NONE);
        c.due("bond -1", x.bonded(-1, 0), Clerk.NONE);
        c.due("from before today", x.bond(1, 3, 0, 10, 1), 1);
        c.due("up to the last day", x.bond(1, 3, 399, 399, 1), 2);
        c.due("seen too early for one", x.seen(1, 3), 1);
        c.due("runs", x.bonded(0, 5), 0);
        c.due("met", x.bonded(1, 5), 1);
        c.due("met once", x.seen(1, 3), 0);
        c.due("seen nobody", x.seen(2, 3), Clerk.RANGE);
        c.due("seen shire 6", x.seen(1, 6), Clerk.RANGE);
        c.due("seen shire -1", x.seen(1, -1), Clerk.RANGE);
        x.pass(4);
        c.due("seen elsewhere", x.seen(1, 2), 0);
        c.due("another is seen", x.seen(0, 3), 0);
        c.due("seen on the last day", x.seen(1, 3), 1);
        x.pass(1);
        c.due("nothing is forfeit", x.count(6), 0);
        c.due("bonds", x.count(5), 3);
    }

    private static void bondsRunOut() {
        AssizeRide x = new AssizeRide();
        Clerk.settle(x, 4);
        x.bond(0, 0, 0, 5, 10);
        x.bond(1, 0, 0, 5, 20);
        x.bond(2, 0, 0, 5, 40);
        x.bond(3, 0, 0, 7, 80);
        x.pass(5);
        c.due("on the last day it runs", x.bonded(0, 5), 0);
        x.dead(1, 5);
        x.dead(2, 6);
        x.pass(1);
        c.due("forfeit", x.bonded(0, 5), 2);
        c.due("dead on it", x.bonded(1, 5), 3);
        c.due("dead behind it", x.bonded(2, 5), 2);
        c.due("runs on", x.bonded(3, 5), 0);
        c.due("chest", x.count(6), 50);
        c.due("seen too late", x.seen(0, 0), 0);
        x.dead(0, 0);
        c.due("known too late", x.bonded(0, 5), 2);
        x.pass(100);
        c.due("by many days", x.bonded(3, 5), 2);
        c.due("chest", x.count(6), 130);
        x.pass(1);
        c.due("once", x.count(6), 130);
    }

    private static void bondsAreLimited() {
        AssizeRide x = new AssizeRide();
        Clerk.settle(x, 1);
        for (int b = 0; b < 80; b++) {
            c.due("bond " + b, x.bond(0, 0, 0, b, 1), b);
        }
        c.due("the 81st", x.bond(0, 0, 0, 1, 1), Clerk.FULL);
        c.due("the 81st, wrong", x.bond(0, 0, 0, 1, 0), Clerk.RANGE);
        c.due("all are met", x.seen(0, 0), 80);
    }
}
