import java.util.ArrayList;
import java.util.List;
import java.util.Random;

/** Promises 21 to 28: how MATTERS begin, INDICTMENTS and BILLS. */
public final class MatterTest {
    private static final Clerk c = new Clerk();

    public static void main(String[] args) {
        crowns();
        pleas();
        beginningsAreLimited();
        words();
        allegations();
        badness();
        mending();
        mendingOrder();
        mendingAsWoven();
        mendingIsLimited();
        bills();
        c.close();
    }

    private static AssizeRide withPeople(String law) {
        AssizeRide x = Clerk.under(law);
        x.person(0, 0);
        x.person(1, 2);
        return x;
    }

    private static void tells(AssizeRide x, int m, int... want) {
        for (int what = 0; what < want.length; what++) {
            c.due("matter(" + m + ", " + what + ")", x.matter(m, what), want[what]);
        }
    }

    private static void crowns() {
        AssizeRide x = withPeople("");
        x.pass(7);
        c.due("crown", Clerk.say(x, " theft ").crown(1, 5, 9, 7), 0);
        tells(x, 0, 0, Clerk.NONE, 1, 5, 9, 7, 0, 0, 0, 0, 0, 0, 0, 1, Clerk.NONE);
        c.due("what 15", x.matter(0, 15), Clerk.ABSENT);
        c.due("what -1", x.matter(0, -1), Clerk.ABSENT);
        c.due("matter 1", x.matter(1, 0), Clerk.ABSENT);
        c.due("matter -1", x.matter(-1, 0), Clerk.ABSENT);
        c.due("nobody", Clerk.say(x, "theft").crown(2, 0, 0, 0), Clerk.RANGE);
        c.due("person -1", Clerk.say(x, "theft").crown(-1, 0, 0, 0), Clerk.RANGE);
        c.due("shire 6", Clerk.say(x, "theft").crown(0, 6, 0, 0), Clerk.RANGE);
        c.due("shire -1", Clerk.say(x, "theft").crown(0, -1, 0, 0), Clerk.RANGE);
        c.due("hundred 10", Clerk.say(x, "theft").crown(0, 0, 10, 0), Clerk.RANGE);
        c.due("hundred -1", Clerk.say(x, "theft").crown(0, 0, -1, 0), Clerk.RANGE);
        c.due("a day to come", Clerk.say(x, "theft").crown(0, 0, 0, 8), Clerk.RANGE);
        c.due("day -1", Clerk.say(x, "theft").crown(0, 0, 0, -1), Clerk.RANGE);
        c.due("no word, wrong day", Clerk.say(x, "").crown(0, 0, 0, 8), Clerk.RANGE);
        c.due("no word", Clerk.say(x, "").crown(0, 0, 0, 0), Clerk.NONE);
        c.due("two words", Clerk.say(x, "a b").crown(0, 0, 0, 0), Clerk.NONE);
        c.due("a sign", Clerk.say(x, "a;").crown(0, 0, 0, 0), Clerk.NONE);
        c.due("matters", x.count(4), 1);
        c.due("begun", x.count(20), 1);
    }

    private static void pleas() {
        AssizeRide x = withPeople("");
        x.pass(7);
        c.due("plea", Clerk.say(x, "debt").plea(1, 0, 2, 3, 6, 9999), 0);
        tells(x, 0, 1, 1, 0, 2, 3, 6, 9999, 0, 0, 0, 0, 0, 0, 1, Clerk.NONE);
        c.due("against itself", Clerk.say(x, "debt").plea(1, 1, 2, 3, 6, 5), Clerk.RANGE);
        c.due("nobody sues", Clerk.say(x, "debt").plea(2, 1, 2, 3, 6, 5), Clerk.RANGE);
        c.due("nobody is sued", Clerk.say(x, "debt").plea(1, 2, 2, 3, 6, 5), Clerk.RANGE);
        c.due("shire", Clerk.say(x, "debt").plea(1, 0, 6, 3, 6, 5), Clerk.RANGE);
        c.due("hundred", Clerk.say(x, "debt").plea(1, 0, 2, 10, 6, 5), Clerk.RANGE);
        c.due("day", Clerk.say(x, "debt").plea(1, 0, 2, 3, 8, 5), Clerk.RANGE);
        c.due("no pounds", Clerk.say(x, "debt").plea(1, 0, 2, 3, 6, 0), Clerk.RANGE);
        c.due("pounds 10000", Clerk.say(x, "debt").plea(1, 0, 2, 3, 6, 10000), Clerk.RANGE);
        c.due("no word", Clerk.say(x, "3").plea(1, 0, 2, 3, 6, 5), Clerk.NONE);
        c.due("one pound", Clerk.say(x, "debt").plea(0, 1, 0, 0, 0, 1), 1);
    }

    private static void beginningsAreLimited() {
        AssizeRide x = withPeople("");
        for (int m = 0; m < 100; m += 2) {
            c.due("crown " + m, Clerk.say(x, "a").crown(0, 0, 0, 0), m);
            c.due("plea " + m, Clerk.say(x, "a").plea(0, 1, 0, 0, 0, 1), m + 1);
        }
        c.due("crown, the 101st", Clerk.say(x, "a").crown(0, 0, 0, 0), Clerk.FULL);
        c.due("plea, the 101st", Clerk.say(x, "a").plea(0, 1, 0, 0, 0, 1), Clerk.FULL);
        c.due("no word ahead of FULL", Clerk.say(x, "").crown(0, 0, 0, 0), Clerk.NONE);
        c.due("RANGE ahead of both", Clerk.say(x, "").plea(0, 0, 0, 0, 0, 1), Clerk.RANGE);
        c.due("matters", x.count(4), 100);
    }

    private static void words() {
        AssizeRide x = withPeople("deed theft = a; words theft b;");
        Clerk.say(x, "theft").crown(0, 0, 0, 0);
        Clerk.say(x, "theft").plea(0, 1, 0, 0, 0, 1);
        String twenty = "a b c d e f g h i j k l m n o p q r s t";
        c.due("twenty", Clerk.say(x, twenty).words(0), 20);
        c.due("twenty-one", Clerk.say(x, twenty + " u").words(0), Clerk.NONE);
        c.due("none", Clerk.say(x, " ").words(0), Clerk.NONE);
        c.due("a number", Clerk.say(x, "a 3").words(0), Clerk.NONE);
        c.due("a sign", Clerk.say(x, "a;").words(0), Clerk.NONE);
        c.due("13 letters", Clerk.say(x, "abcdefghijklm").words(0), Clerk.NONE);
        c.due("the same again", Clerk.say(x, "b b\nb").words(0), 3);
        c.due("of a plea", Clerk.say(x, "b").words(1), Clerk.RANGE);
        c.due("of none", Clerk.say(x, "b").words(2), Clerk.RANGE);
        Clerk.say(x, "a;").allege(0);
        c.due("the latest stand", x.bad(0), 0);
        Clerk.say(x, "x;").words(0);
        c.due("a wrong row changes nothing", x.bad(0), 0);
        Clerk.say(x, "x").words(0);
        c.due("told anew", x.bad(0), 300);
        x.bill(0, 0);
        c.due("not BEGUN", Clerk.say(x, "b").words(0), Clerk.STATE);
        c.due("not BEGUN, no row", Clerk.say(x, "").words(0), Clerk.STATE);
    }

    private static void allegations() {
        AssizeRide x = withPeople("deed theft = a;");
        Clerk.say(x, "theft").crown(0, 0, 0, 0);
        Clerk.say(x, "theft").plea(0, 1, 0, 0, 0, 1);
        Clerk.say(x, "w").words(0);
        c.due("two", Clerk.say(x, "a; b=3;").allege(0), 2);
        c.due("good", x.bad(0), 0);
        c.due("no row", Clerk.say(x, "b").allege(0), Clerk.NONE);
        c.due("changes nothing", x.bad(0), 0);
        c.due("told anew", Clerk.say(x, "a=0;").allege(0), 1);
        c.due("lacks", x.bad(0), 400);
        c.due("an empty row", Clerk.say(x, "").allege(0), 0);
        c.due("of a plea", Clerk.say(x, "a;").allege(1), Clerk.RANGE);
        c.due("of none", Clerk.say(x, "a;").allege(-1), Clerk.RANGE);
        x.bill(0, 0);
        c.due("not BEGUN", Clerk.say(x, "a;").allege(0), Clerk.STATE);
        c.due("not BEGUN, no row", Clerk.say(x, "a").allege(0), Clerk.STATE);
    }

    private static void badness() {
        AssizeRide x = withPeople("deed theft = a and not b unless c; words theft p q p;");
        Clerk.say(x, "theft").crown(0, 0, 0, 0);
        Clerk.say(x, "arson").crown(0, 0, 0, 0);
        Clerk.say(x, "theft").plea(0, 1, 0, 0, 0, 1);
        c.due("nothing told", x.bad(0), 100);
        Clerk.say(x, "a;").allege(0);
        c.due("no words told", x.bad(0), 100);
        Clerk.say(x, "p q").words(1);
        c.due("no facts told", x.bad(1), 100);
        Clerk.say(x, "a;").allege(1);
        c.due("no such deed", x.bad(1), 200);
        bad(x, "q p", "a;", 301);
        bad(x, "x", "b;", 300);
        bad(x, "q x p x q x", "a;", 302);
        bad(x, "p q", "a;", 302);
        bad(x, "q p p q q p", "a;", 0);
        bad(x, "p q p", "a;b;", 401);
        bad(x, "p q p", "a;c;", 402);
        bad(x, "p q p", "b;", 499);
        bad(x, "p q p", "", 400);
        c.due("of a plea", x.bad(2), Clerk.RANGE);
        c.due("of none", x.bad(3), Clerk.RANGE);
    }

    private static void bad(AssizeRide x, String words, String facts, int want) {
        Clerk.say(x, words).words(0);
        Clerk.say(x, facts).allege(0);
        c.due("bad of " + words + " / " + facts, x.bad(0), want);
    }

    private static void mending() {
        AssizeRide x = withPeople("deed theft = a; words theft p q r; mend theft; deed arson = a; words arson p;");
        Clerk.say(x, "theft").crown(0, 0, 0, 0);
        Clerk.say(x, "arson").crown(0, 0, 0, 0);
        Clerk.say(x, "theft").plea(0, 1, 0, 0, 0, 1);
        c.due("no words yet", x.mend(0), Clerk.STATE);
        Clerk.say(x, "a;").allege(0);
        c.due("facts are no words", x.mend(0), Clerk.STATE);
        Clerk.say(x, "q x p").words(0);
        c.due("two lack", x.mend(0), 2);
        c.due("none lack", x.mend(0), 0);
        c.due("good", x.bad(0), 0);
        Clerk.say(x, "p").words(1);
        c.due("no mend in the law", x.mend(1), Clerk.NONE);
        c.due("of a plea", x.mend(2), Clerk.RANGE);
        c.due("of none", x.mend(3), Clerk.RANGE);
        x.bill(0, 23);
        c.due("not BEGUN", x.mend(0), Clerk.STATE);
    }

    /** The words that stand after mending are seen by laws of a word each, asked for one behind another. */
    private static void mendingOrder() {
        woven("p q r", "x y", "p q r x y");
        woven("p q", "q p", "p q p");
        woven("p q", "x q", "p x q");
        woven("p q", "p x", "p q x");
        woven("p p", "x p y", "p x p y");
        woven("a b c", "c a b", "c a b c");
        woven("a b", "b x a", "a b x a");
        woven("a b a", "b a x b", "a b a x b");
    }

    private static void woven(String law, String row, String want) {
        AssizeRide x = withPeople("deed t = a; words t " + law + "; mend t;");
        Clerk.say(x, "t").crown(0, 0, 0, 0);
        Clerk.say(x, "a;").allege(0);
        Clerk.say(x, row).words(0);
        int lacked = want.split(" ").length - row.split(" ").length;
        c.due(law + " into " + row, x.mend(0), lacked);
        Clerk.say(x, "strike 0; deed t = a; mend t; words t " + want + ";").act(0, 63);
        c.due(law + " into " + row + " is " + want, x.bad(0), 0);
        c.due(law + " into " + row + " is no more", x.mend(0), 0);
    }

    /** The weave as the document tells it, with the fewest found by trying out. */
    private static void mendingAsWoven() {
        Random random = new Random(9);
        for (int round = 0; round < 300; round++) {
            List<String> law = letters(random, 4);
            List<String> row = letters(random, 4);
            List<String> want = new ArrayList<>();
            int i = 0;
            int j = 0;
            while (i < row.size() || j < law.size()) {
                boolean both = i < row.size() && j < law.size() && row.get(i).equals(law.get(j));
                if (both) {
                    want.add(row.get(i++));
                    j++;
                } else if (i == row.size() || j < law.size() && fewest(row, i, law, j + 1) + 1 == fewest(row, i, law, j)) {
                    want.add(law.get(j++));
                } else {
                    want.add(row.get(i++));
                }
            }
            woven(String.join(" ", law), String.join(" ", row), String.join(" ", want));
        }
    }

    private static List<String> letters(Random random, int most) {
        List<String> letters = new ArrayList<>();
        for (int n = 1 + random.nextInt(most); n > 0; n--) {
            letters.add("" + (char) ('a' + random.nextInt(3)));
        }
        return letters;
    }

    private static int fewest(List<String> row, int i, List<String> law, int j) {
        if (j == law.size()) {
            return 0;
        }
        int put = 1 + fewest(row, i, law, j + 1);
        for (int at = i; at < row.size(); at++) {
            if (row.get(at).equals(law.get(j))) {
                put = Math.min(put, fewest(row, at + 1, law, j + 1));
            }
        }
        return put;
    }

    private static void mendingIsLimited() {
        AssizeRide x = withPeople("deed t = a; words t a b c d e f g h; mend t;");
        Clerk.say(x, "t").crown(0, 0, 0, 0);
        Clerk.say(x, "s s s s s s s s s s s s s s s s s s s s").words(0);
        c.due("eight are put in", x.mend(0), 8);
        Clerk.say(x, "words t h i;").act(0, 63);
        c.due("a 29th", x.mend(0), Clerk.FULL);
        Clerk.say(x, "a;").allege(0);
        c.due("was not put in", x.bad(0), 301);
        Clerk.say(x, "words t a h s;").act(0, 63);
        c.due("28 can be mended", x.mend(0), 0);
        AssizeRide y = withPeople("deed t = a; words t a a; mend t;");
        Clerk.say(y, "t").crown(0, 0, 0, 0);
        Clerk.say(y, "a").words(0);
        c.due("one is put in", y.mend(0), 1);
        c.due("none is put in", y.mend(0), 0);
        Clerk.say(y, "words t a a a a a;").act(0, 63);
        c.due("there were two", y.mend(0), 3);
    }

    private static void bills() {
        AssizeRide x = withPeople("deed t = a; bill 5;");
        for (int m = 0; m < 4; m++) {
            Clerk.say(x, "t").crown(0, 0, 0, 0);
            Clerk.say(x, "w").words(m);
            Clerk.say(x, m == 3 ? "b;" : "a;").allege(m);
        }
        Clerk.say(x, "t").plea(0, 1, 0, 0, 0, 1);
        c.due("votes 24", x.bill(0, 24), Clerk.RANGE);
        c.due("votes -1", x.bill(0, -1), Clerk.RANGE);
        c.due("of a plea", x.bill(4, 5), Clerk.RANGE);
        c.due("of none", x.bill(5, 5), Clerk.RANGE);
        c.due("enough", x.bill(0, 5), 2);
        c.due("too few", x.bill(1, 4), 1);
        c.due("all", x.bill(2, 23), 2);
        c.due("bad", x.bill(3, 23), 1);
        c.due("not BEGUN any more", x.bill(0, 5), Clerk.STATE);
        c.due("wrong votes ahead of that", x.bill(0, 24), Clerk.RANGE);
        c.due("state", x.matter(0, 7), 2);
        c.due("state", x.matter(3, 7), 1);
        c.due("true bills", x.count(22), 2);
        c.due("no bills", x.count(21), 2);
    }
}
