/** Promises 29 to 37: witnesses, jurors and what they find. */
public final class JuryTest {
    private static final Clerk c = new Clerk();

    public static void main(String[] args) {
        witnesses();
        whoMay();
        drawing();
        challenging();
        fullness();
        hearing();
        hearingPleas();
        kinLater();
        kinLaterOnlyThen();
        c.close();
    }

    private static AssizeRide court(String law, int people) {
        AssizeRide x = Clerk.under("deed t = a; bill 0; " + law);
        Clerk.settle(x, people);
        return x;
    }

    private static int indict(AssizeRide x) {
        return Clerk.indict(x, "t", "w", "a;");
    }

    private static void witnesses() {
        AssizeRide x = court("jury 1; hundred 0; keep t;", 8);
        int m = indict(x);
        c.due("of none", x.witness(1, 1), Clerk.RANGE);
        c.due("nobody", x.witness(m, 8), Clerk.RANGE);
        c.due("the accused", x.witness(m, 0), Clerk.STATE);
        c.due("draw", x.draw(m, 0), 1);
        c.due("a juror", x.witness(m, 1), Clerk.STATE);
        c.due("first", x.witness(m, 2), 1);
        c.due("again", x.witness(m, 2), Clerk.STATE);
        c.due("second", x.witness(m, 3), 2);
        Clerk.say(x, "a;").hear(m);
        c.due("of a guilty one", x.witness(m, 4), 3);
        x.keep(m);
        c.due("of a kept one", x.witness(m, 5), 4);
        c.due("the fifth", x.witness(m, 6), Clerk.FULL);
        c.due("the fifth, who is one", x.witness(m, 5), Clerk.STATE);
        c.due("witnesses", x.matter(m, 11), 4);
        int p = Clerk.say(x, "t").plea(1, 2, 0, 0, 0, 5);
        c.due("who sues", x.witness(p, 1), Clerk.STATE);
        c.due("who is sued", x.witness(p, 2), Clerk.STATE);
        c.due("of a plea", x.witness(p, 0), 1);
        int n = Clerk.say(x, "t").crown(0, 0, 0, 0);
        c.due("of a begun one", x.witness(n, 1), 1);
        x.bill(n, 0);
        c.due("of no bill", x.witness(n, 2), Clerk.STATE);
        c.due("of no bill, nobody", x.witness(n, 8), Clerk.RANGE);
    }

    private static void whoMay() {
        AssizeRide x = court("land 50; kin 2;", 4);
        x.person(1, 0);
        x.land(4, 100, 0);
        int m = indict(x);
        c.due("may", x.may(m, 1), 1);
        c.due("the accused", x.may(m, 0), 0);
        c.due("of another shire", x.may(m, 4), 0);
        x.land(1, 49, 0);
        c.due("too little land", x.may(m, 1), 0);
        x.land(1, 50, 0);
        c.due("land enough", x.may(m, 1), 1);
        x.land(1, 0, 3);
        c.due("today it is", x.may(m, 1), 1);
        x.pass(3);
        c.due("no more", x.may(m, 1), 0);
        x.dead(2, 4);
        c.due("dead to be", x.may(m, 2), 1);
        x.pass(1);
        c.due("dead", x.may(m, 2), 0);
        x.kin(3, 0, 3);
        c.due("far kin", x.may(m, 3), 1);
        x.kin(0, 3, 2);
        c.due("kin", x.may(m, 3), 0);
        x.kin(0, 3, 0);
        c.due("no kin", x.may(m, 3), 1);
        x.witness(m, 3);
        c.due("a witness", x.may(m, 3), 0);
        c.due("of none", x.may(1, 1), Clerk.RANGE);
        c.due("nobody", x.may(m, 5), Clerk.RANGE);
        int p = Clerk.say(x, "t").plea(1, 3, 0, 0, 0, 5);
        x.land(0, 60, 0);
        c.due("of a plea", x.may(p, 0), 1);
        c.due("who sues", x.may(p, 1), 0);
        x.kin(0, 1, 1);
        c.due("kin of who sues", x.may(p, 0), 0);
        x.kin(0, 1, 4);
        x.kin(0, 3, 1);
        c.due("kin of who is sued", x.may(p, 0), 0);
        AssizeRide y = court("kin 0;", 2);
        indict(y);
        y.kin(0, 1, 1);
        c.due("kin that doesn't matter", y.may(0, 1), 1);
        c.due("of a begun one too", y.may(Clerk.say(y, "t").crown(0, 0, 0, 0), 1), 1);
    }

    private static void drawing() {
        AssizeRide x = court("jury 3;", 6);
        int begun = Clerk.say(x, "t").crown(0, 0, 0, 0);
        c.due("list of a begun one", x.list(begun), Clerk.STATE);
        c.due("draw of a begun one", x.draw(begun, 0), Clerk.STATE);
        c.due("list of none", x.list(1), Clerk.RANGE);
        c.due("draw of none", x.draw(1, 0), Clerk.RANGE);
        int m = indict(x);
        c.due("list", x.list(m), 5);
        c.due("number 5", x.draw(m, 5), Clerk.RANGE);
        c.due("number -1", x.draw(m, -1), Clerk.RANGE);
        c.due("draw the last", x.draw(m, 4), 5);
        c.due("draw the second", x.draw(m, 1), 2);
        c.due("list then", x.list(m), 3);
        c.due("draw the second again", x.draw(m, 1), 3);
        c.due("draw no more", x.draw(m, 0), Clerk.FULL);
        c.due("nor by a wrong number", x.draw(m, 99), Clerk.FULL);
        c.due("list still", x.list(m), 2);
        c.due("juror 0", x.juror(m, 0), 5);
        c.due("juror 1", x.juror(m, 1), 2);
        c.due("juror 2", x.juror(m, 2), 3);
        c.due("juror 3", x.juror(m, 3), Clerk.NONE);
        c.due("juror -1", x.juror(m, -1), Clerk.NONE);
        c.due("juror of none", x.juror(9, 0), Clerk.NONE);
        c.due("jurors", x.matter(m, 10), 3);
        Clerk.say(x, "a;").hear(m);
        c.due("list of a heard one", x.list(m), Clerk.STATE);
        c.due("draw of a heard one", x.draw(m, 0), Clerk.STATE);
        c.due("jurors stay", x.juror(m, 1), 2);
        int p = Clerk.say(x, "t").plea(0, 1, 0, 0, 0, 5);
        c.due("list of a plea", x.list(p), 4);
        x.dead(5, 3);
        x.land(4, 0, 2);
        c.due("list today", x.list(p), 4);
        x.pass(2);
        c.due("list by the land of today", x.list(p), 3);
        x.pass(1);
        c.due("list by who lives today", x.list(p), 2);
        x.land(4, 100, 3);
        c.due("draw by the land of today", x.draw(p, 2), 4);
        int q = Clerk.say(x, "t").plea(2, 1, 0, 0, 0, 5);
        c.due("list with person 0", x.list(q), 3);
        c.due("draw person 0", x.draw(q, 0), 0);
    }

    private static void challenging() {
        AssizeRide x = court("jury 3; challenge 2;", 7);
        int m = indict(x);
        Clerk.swear(x, m, 3);
        c.due("of none", x.challenge(1, 1), Clerk.RANGE);
        c.due("no juror", x.challenge(m, 4), Clerk.RANGE);
        c.due("nobody", x.challenge(m, -1), Clerk.RANGE);
        c.due("first", x.challenge(m, 1), 1);
        c.due("not twice", x.challenge(m, 1), Clerk.RANGE);
        c.due("order stays", x.juror(m, 0), 2);
        c.due("order stays behind", x.juror(m, 1), 3);
        c.due("jurors", x.matter(m, 10), 2);
        c.due("not drawn again", x.draw(m, 0), 4);
        c.due("behind the others", x.juror(m, 2), 4);
        c.due("second", x.challenge(m, 4), 2);
        c.due("third", x.challenge(m, 2), Clerk.STATE);
        c.due("third, no juror", x.challenge(m, 1), Clerk.RANGE);
        c.due("challenges", x.matter(m, 12), 2);
        c.due("list", x.list(m), 2);
        x.draw(m, 0);
        Clerk.say(x, "a;").hear(m);
        c.due("of a heard one", x.challenge(m, 2), Clerk.STATE);
    }

    private static void fullness() {
        AssizeRide x = Clerk.under("deed t = a; bill 0; jury 3; hundred 2;");
        for (int p = 0; p < 7; p++) {
            x.land(x.person(0, p < 4 ? 1 : 0), 100, 0);
        }
        int m = indict(x);
        c.due("lacks two", x.lacks(m), 2);
        x.draw(m, 0);
        x.draw(m, 0);
        c.due("lacks two still", x.lacks(m), 2);
        c.due("not full", x.full(m), 0);
        c.due("a third of the hundred", x.draw(m, 1), 4);
        c.due("lacks one", x.lacks(m), 1);
        c.due("three, but not full", x.full(m), 0);
        c.due("can't be heard", Clerk.say(x, "a;").hear(m), Clerk.STATE);
        x.challenge(m, 1);
        c.due("another of the hundred", x.draw(m, 1), 5);
        c.due("lacks none", x.lacks(m), 0);
        c.due("full", x.full(m), 1);
        x.challenge(m, 2);
        c.due("two are not full", x.full(m), 0);
        c.due("but lack none", x.lacks(m), 0);
        x.draw(m, 1);
        c.due("more than enough of it", x.lacks(m), 0);
        c.due("full of none", x.full(1), Clerk.RANGE);
        c.due("lacks of none", x.lacks(-1), Clerk.RANGE);
    }

    private static void hearing() {
        AssizeRide x = court("jury 1; hundred 0;", 3);
        int m = indict(x);
        c.due("without a jury", Clerk.say(x, "a;").hear(m), Clerk.STATE);
        x.pass(2);
        x.draw(m, 0);
        c.due("of none", Clerk.say(x, "a;").hear(1), Clerk.RANGE);
        c.due("no row", Clerk.say(x, "a").hear(m), Clerk.NONE);
        c.due("not heard yet", x.matter(m, 14), Clerk.NONE);
        c.due("guilty", Clerk.say(x, "a=2;").hear(m), 3);
        c.due("heard on", x.matter(m, 14), 2);
        c.due("not twice", Clerk.say(x, "a;").hear(m), Clerk.STATE);
        c.due("not twice, no row", Clerk.say(x, "a").hear(m), Clerk.STATE);
        int n = indict(x);
        c.due("not guilty", Clerk.hear(x, n, 1, "b;"), 4);
        int o = indict(x);
        c.due("by no facts", Clerk.hear(x, o, 1, ""), 4);
        Clerk.say(x, "t").settle(false);
        c.due("settled as none", Clerk.hear(x, indict(x), 1, "a;"), 4);
        Clerk.say(x, "other").settle(true);
        c.due("another word changes nothing", Clerk.hear(x, indict(x), 1, "a;"), 4);
        Clerk.say(x, "t").settle(true);
        c.due("the latest word holds", Clerk.hear(x, indict(x), 1, "a;"), 3);
        c.due("but facts are wanted", Clerk.hear(x, indict(x), 1, "b;"), 4);
        int begun = Clerk.say(x, "t").crown(0, 0, 0, 0);
        c.due("of a begun one", Clerk.say(x, "a;").hear(begun), Clerk.STATE);
    }

    private static void hearingPleas() {
        AssizeRide x = court("jury 1; hundred 0; fine t 9; death t;", 4);
        int m = Clerk.say(x, "t").plea(0, 1, 0, 0, 0, 50);
        c.due("drawn", x.draw(m, 0), 2);
        c.due("judged", Clerk.say(x, "a;").hear(m), 5);
        c.due("not to death", x.matter(m, 8), 0);
        c.due("nothing for the crown", x.count(6), 0);
        Clerk.say(x, "t").settle(false);
        int n = Clerk.say(x, "t").plea(0, 1, 0, 0, 0, 50);
        c.due("settled doesn't matter", Clerk.hear(x, n, 1, "a;"), 5);
        int o = Clerk.say(x, "t").plea(0, 1, 0, 0, 0, 50);
        c.due("not made", Clerk.hear(x, o, 1, "b;"), 4);
        int p = Clerk.say(x, "nodeed").plea(0, 1, 0, 0, 0, 50);
        c.due("no such deed", Clerk.hear(x, p, 1, "a;"), 4);
    }

    private static void kinLater() {
        AssizeRide x = court("jury 2; hundred 0; void; kin 2; fine t 9; challenge 3;", 6);
        int m = indict(x);
        Clerk.swear(x, m, 2);
        x.challenge(m, 2);
        c.due("drawn again", x.draw(m, 0), 3);
        c.due("guilty", Clerk.say(x, "a;").hear(m), 3);
        int n = indict(x);
        Clerk.hear(x, n, 2, "a;");
        x.judge(n);
        int p = Clerk.say(x, "t").plea(0, 5, 0, 0, 0, 50);
        Clerk.hear(x, p, 2, "a;");
        c.due("fine paid", x.count(6), 9);
        c.due("too far", x.kin(1, 0, 3), 0);
        c.due("no kin", x.kin(1, 0, 0), 0);
        c.due("of others", x.kin(4, 0, 1), 0);
        c.due("of jurors", x.kin(1, 3, 1), 0);
        x.pass(1);
        c.due("kin of a juror of all three", x.kin(1, 0, 2), 3);
        c.due("true bill again", x.matter(m, 7), 2);
        c.due("true bill again", x.matter(n, 7), 2);
        c.due("begun again", x.matter(p, 7), 0);
        c.due("no jurors", x.matter(m, 10), 0);
        c.due("no challenges", x.matter(m, 12), 0);
        c.due("not heard", x.matter(m, 14), Clerk.NONE);
        c.due("the fine is given back", x.count(6), 0);
        c.due("no fine", x.matter(n, 9), 0);
        c.due("changed today", x.stateOn(m, 1, 1), 2);
        c.due("guilty yesterday", x.stateOn(m, 0, 1), 3);
        c.due("who is kin can't be drawn", x.may(m, 1), 0);
        c.due("who was challenged can", x.draw(m, 0), 2);
        c.due("told again", x.kin(1, 0, 2), 0);
    }

    private static void kinLaterOnlyThen() {
        AssizeRide x = court("jury 1; hundred 0; void;", 5);
        int m = indict(x);
        x.draw(m, 0);
        c.due("ahead of the hearing", x.kin(0, 1, 1), 0);
        Clerk.say(x, "a;").hear(m);
        c.due("another's kin", x.kin(0, 2, 1), 0);
        c.due("still guilty", x.matter(m, 7), 3);
        c.due("told once more", x.kin(0, 1, 1), 1);
        x.kin(0, 1, 0);
        Clerk.hear(x, m, 1, "b;");
        c.due("not guilty stays", x.kin(0, 1, 1), 0);
        AssizeRide y = court("jury 1; hundred 0;", 3);
        int n = indict(y);
        Clerk.hear(y, n, 1, "a;");
        c.due("the law lets it stand", y.kin(0, 1, 1), 0);
        c.due("guilty stands", y.matter(n, 7), 3);
        AssizeRide z = court("jury 1; hundred 0; void; keep t;", 3);
        int k = indict(z);
        Clerk.hear(z, k, 1, "a;");
        z.keep(k);
        c.due("kept stays", z.kin(0, 1, 1), 0);
        c.due("kept", z.matter(k, 7), 7);
        AssizeRide w = court("jury 1; hundred 0; void;", 4);
        int q = Clerk.say(w, "t").plea(3, 0, 0, 0, 0, 5);
        Clerk.hear(w, q, 1, "a;");
        c.due("kin of who sues", w.kin(1, 3, 2), 1);
    }
}
