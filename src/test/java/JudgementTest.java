/** Promises 38 to 43: judgements, BENEFIT, points KEPT and SETTLED, PARDONS, what is UNDONE. */
public final class JudgementTest {
    private static final Clerk c = new Clerk();
    private static final String LAW = "deed felony = a; death felony; clergy felony; keep felony; fine felony 70;"
            + "deed murder = a; death murder; deed brawl = a; fine brawl 9; clergy brawl; deed slander = a;"
            + "jury 1; hundred 0; bill 0;";

    public static void main(String[] args) {
        judging();
        benefits();
        keeping();
        settling();
        settlingIsLimited();
        pardons();
        undoing();
        c.close();
    }

    private static AssizeRide court() {
        AssizeRide x = Clerk.under(LAW);
        Clerk.settle(x, 3);
        return x;
    }

    private static int tried(AssizeRide x, String deed, String facts) {
        int m = Clerk.indict(x, deed, "w", "a;");
        Clerk.hear(x, m, 1, facts);
        return m;
    }

    private static int judged(AssizeRide x, String deed) {
        int m = tried(x, deed, "a;");
        x.judge(m);
        return m;
    }

    private static void judging() {
        AssizeRide x = court();
        int m = tried(x, "felony", "a;");
        c.due("to death", x.judge(m), 1);
        c.due("judged", x.matter(m, 7), 5);
        c.due("to die", x.matter(m, 8), 1);
        c.due("no fine beside", x.matter(m, 9), 0);
        c.due("nothing paid", x.count(6), 0);
        c.due("not twice", x.judge(m), Clerk.STATE);
        int n = tried(x, "brawl", "a;");
        c.due("to a fine", x.judge(n), 0);
        c.due("fine", x.matter(n, 9), 9);
        c.due("not to die", x.matter(n, 8), 0);
        c.due("paid", x.count(6), 9);
        int o = tried(x, "slander", "a;");
        c.due("to nothing", x.judge(o), 0);
        c.due("fine of 0", x.matter(o, 9), 0);
        c.due("not guilty", x.judge(tried(x, "felony", "")), Clerk.STATE);
        c.due("of none", x.judge(99), Clerk.RANGE);
        c.due("of a plea", x.judge(Clerk.say(x, "felony").plea(0, 1, 0, 0, 0, 1)), Clerk.RANGE);
    }

    private static void benefits() {
        AssizeRide x = court();
        int m = tried(x, "felony", "a;");
        c.due("not judged", x.benefit(m), Clerk.STATE);
        x.judge(m);
        c.due("benefit", x.benefit(m), 1);
        c.due("state", x.matter(m, 7), 6);
        c.due("no death", x.matter(m, 8), 0);
        c.due("not twice", x.benefit(m), Clerk.STATE);
        int n = judged(x, "felony");
        c.due("once in a life", x.benefit(n), Clerk.STATE);
        c.due("undone", x.undo(m), 2);
        c.due("then by another", x.benefit(n), 1);
        AssizeRide y = court();
        c.due("no clergy", y.benefit(judged(y, "murder")), Clerk.STATE);
        c.due("not to death", y.benefit(judged(y, "brawl")), Clerk.STATE);
        c.due("of none", y.benefit(-1), Clerk.RANGE);
        c.due("of a plea", y.benefit(Clerk.say(y, "felony").plea(0, 1, 0, 0, 0, 1)), Clerk.RANGE);
        int b = judged(y, "felony");
        y.pardon(b, 0, 9);
        y.seen(0, 0);
        c.due("broken is not judged", y.benefit(b), Clerk.STATE);
    }

    private static void keeping() {
        AssizeRide x = court();
        int m = Clerk.indict(x, "felony", "w", "a;");
        c.due("not guilty yet", x.keep(m), Clerk.STATE);
        Clerk.hear(x, m, 1, "a;");
        c.due("kept", x.keep(m), 1);
        c.due("state", x.matter(m, 7), 7);
        c.due("not twice", x.keep(m), Clerk.STATE);
        c.due("can't be judged", x.judge(m), Clerk.STATE);
        c.due("can't be undone", x.undo(m), Clerk.STATE);
        c.due("no keep in the law", x.keep(tried(x, "murder", "a;")), Clerk.STATE);
        c.due("judged already", x.keep(judged(x, "felony")), Clerk.STATE);
        c.due("of none", x.keep(50), Clerk.RANGE);
        c.due("of a plea", x.keep(Clerk.say(x, "felony").plea(0, 1, 0, 0, 0, 1)), Clerk.RANGE);
    }

    private static void settling() {
        AssizeRide x = Clerk.under(LAW + "keep brawl;");
        Clerk.settle(x, 3);
        int[] kept = {tried(x, "felony", "a;"), tried(x, "brawl", "a;"), tried(x, "felony", "a;")};
        for (int m : kept) {
            x.keep(m);
        }
        int guilty = tried(x, "felony", "a;");
        c.due("no word", Clerk.say(x, "").settle(true), Clerk.NONE);
        c.due("two words", Clerk.say(x, "felony brawl").settle(true), Clerk.NONE);
        c.due("of nothing", Clerk.say(x, "arson").settle(true), 0);
        x.pass(3);
        c.due("as one", Clerk.say(x, "felony").settle(true), 2);
        c.due("judged", x.matter(kept[0], 7), 5);
        c.due("to death", x.matter(kept[0], 8), 1);
        c.due("judged today", x.stateOn(kept[2], 3, 3), 5);
        c.due("guilty stays", x.matter(guilty, 7), 3);
        c.due("others stay", x.matter(kept[1], 7), 7);
        c.due("as one, with a fine", Clerk.say(x, "brawl").settle(true), 1);
        c.due("fine", x.matter(kept[1], 9), 9);
        c.due("chest", x.count(6), 9);
        x.keep(guilty);
        c.due("as none", Clerk.say(x, "felony").settle(false), 1);
        c.due("not guilty", x.matter(guilty, 7), 4);
        c.due("not to die", x.matter(guilty, 8), 0);
        c.due("once settled, none is kept", Clerk.say(x, "felony").settle(true), 0);
    }

    private static void settlingIsLimited() {
        AssizeRide x = court();
        for (int i = 0; i < 40; i++) {
            c.due("settle " + i, Clerk.say(x, i % 2 == 0 ? "felony" : "x").settle(i % 3 == 0), 0);
        }
        int m = tried(x, "brawl", "a;");
        c.due("no word ahead of FULL", Clerk.say(x, "3").settle(true), Clerk.NONE);
        c.due("the 41st", Clerk.say(x, "brawl").settle(false), Clerk.FULL);
        c.due("changes nothing", x.matter(m, 7), 3);
        c.due("nor later", x.matter(tried(x, "brawl", "a;"), 7), 3);
    }

    private static void pardons() {
        AssizeRide x = court();
        x.pass(5);
        int m = judged(x, "felony");
        c.due("shire 6", x.pardon(m, 6, 9), Clerk.RANGE);
        c.due("shire -1", x.pardon(m, -1, 9), Clerk.RANGE);
        c.due("a day ahead", x.pardon(m, 2, 4), Clerk.RANGE);
        c.due("day 400", x.pardon(m, 2, 400), Clerk.RANGE);
        c.due("of none", x.pardon(m + 1, 2, 9), Clerk.RANGE);
        c.due("pardoned", x.pardon(m, 2, 6), 1);
        c.due("state", x.matter(m, 7), 8);
        c.due("not to die", x.matter(m, 8), 0);
        c.due("not twice", x.pardon(m, 2, 6), Clerk.STATE);
        c.due("not undone", x.undo(m), Clerk.STATE);
        c.due("seen elsewhere", x.seen(0, 1), 0);
        c.due("another is seen", x.seen(1, 2), 0);
        x.pass(1);
        c.due("seen on the last day", x.seen(0, 2), 100);
        c.due("broken", x.matter(m, 7), 9);
        c.due("to die", x.matter(m, 8), 1);
        c.due("not twice", x.seen(0, 2), 0);
        c.due("no second pardon", x.pardon(m, 2, 9), Clerk.STATE);
        int n = judged(x, "murder");
        c.due("up to today", x.pardon(n, 3, 6), 1);
        x.pass(1);
        c.due("seen behind the last day", x.seen(0, 3), 0);
        c.due("pardoned still", x.matter(n, 7), 8);
        int[] more = {judged(x, "murder"), judged(x, "murder")};
        x.pardon(more[0], 4, 399);
        x.pardon(more[1], 4, 399);
        x.bond(0, 4, 7, 9, 5);
        c.due("two broken, a bond met", x.seen(0, 4), 201);
        c.due("a fine can't be pardoned", x.pardon(judged(x, "brawl"), 0, 20), Clerk.STATE);
        c.due("of a plea", x.pardon(Clerk.say(x, "felony").plea(0, 1, 0, 0, 0, 1), 0, 20), Clerk.RANGE);
        c.due("wrong day ahead of STATE", x.pardon(m, 0, 0), Clerk.RANGE);
    }

    private static void undoing() {
        AssizeRide x = court();
        int m = judged(x, "brawl");
        c.due("undone", x.undo(m), 2);
        c.due("true bill", x.matter(m, 7), 2);
        c.due("no fine", x.matter(m, 9), 0);
        c.due("given back", x.count(6), 0);
        c.due("no jurors", x.matter(m, 10), 0);
        c.due("not heard", x.matter(m, 14), Clerk.NONE);
        c.due("not twice", x.undo(m), Clerk.STATE);
        x.draw(m, 0);
        x.challenge(m, 1);
        c.due("another is drawn", x.draw(m, 0), 2);
        Clerk.say(x, "").hear(m);
        c.due("not guilty is undone", x.undo(m), 2);
        c.due("no challenges", x.matter(m, 12), 0);
        c.due("who was challenged is drawn", x.draw(m, 0), 1);
        c.due("guilty isn't undone", Clerk.say(x, "a;").hear(m) == 3 ? x.undo(m) : 0, Clerk.STATE);
        int n = judged(x, "felony");
        c.due("death undone", x.undo(n), 2);
        c.due("not to die", x.matter(n, 8), 0);
        int p = Clerk.say(x, "brawl").plea(0, 1, 0, 0, 0, 7);
        c.due("a begun plea", x.undo(p), Clerk.STATE);
        Clerk.hear(x, p, 1, "a;");
        c.due("a plea judged", x.undo(p), 0);
        Clerk.hear(x, p, 1, "");
        c.due("a plea not guilty", x.undo(p), 0);
        c.due("begun", x.matter(p, 7), 0);
        int k = tried(x, "felony", "a;");
        x.keep(k);
        Clerk.say(x, "felony").settle(false);
        c.due("freed by judges", x.undo(k), 2);
        c.due("of none", x.undo(99), Clerk.RANGE);
        c.due("of -1", x.undo(-1), Clerk.RANGE);
    }
}
