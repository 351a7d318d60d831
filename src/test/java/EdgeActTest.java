import java.util.function.Supplier;

/** Boundary cases of an ACT's text and its FAULTS: Terms II, promises 13 to 15. */
public final class EdgeActTest extends Edges {
    private static final int SYNTAX = 1;
    private static final int BOUNDS = 2;
    private static final int TWICE = 3;
    private static final int ROOM = 4;
    private static final String[] JOINING = {"or", "and", "not", "unless", "above", "below", "is"};

    public static void main(String[] args) {
        new EdgeActTest().test();
    }

    @Override
    void sentences() {
        in("II");
        edge("ACTS, at most 30, numbered from 0 as they come", this::mostActs);
        edge("each with a first day (not below that of the one before)", this::firstDays);
        edge("text = {clause \";\"}", this::texts);
        edge("clause = \"deed\" W \"=\" COND [\"unless\" COND] | \"words\" W W {W} | \"death\" W | \"fine\" W N", this::cutClauses);
        edge("| \"void\" | \"stand\" | \"strike\" N [W]", this::clausesTooLong);
        conditions();
        bounds();
        faults();
        calls();
    }

    private void conditions() {
        edge("ONE = \"not\" ONE | \"(\" COND \")\" | TEST", this::brokenConditions);
        edge("TEST = SUM [(\"above\" | \"below\" | \"is\") SUM]", this::brokenTests);
        edge("No W of a TERM is one of: or, and, not, unless, above, below, is", this::joiningWords);
        edge("A TEST of one SUM alone holds if that is above 0", this::sumsAlone);
        edge("(\"above\" | \"below\" | \"is\")", this::relations);
        edge("With \"unless\" a deed is the first COND, and not the second", this::unless);
    }

    private void bounds() {
        edge("N of jury 1 .. 12", () -> clauseBounds("jury", 7, 1, 12));
        edge("of land, fine 0 .. 9999", this::landAndFine);
        edge("of kin 0 .. 4", () -> clauseBounds("kin", 9, 0, 4));
        edge("of challenge, hundred 0 .. 12", () -> {
            clauseBounds("challenge", 10, 0, 12);
            clauseBounds("hundred", 11, 0, 12);
        });
        edge("of bill 0 .. 23", () -> clauseBounds("bill", 12, 0, 23));
        edge("of a TERM 0 .. 9999", this::termBounds);
        edge("of strike an ACT that is there", this::strikeBounds);
        edge("Of the words of a clause 1 .. 8 behind the deed's", this::wordsOfClause);
        edge("At most 20 TESTS a deed", this::mostTests);
        edge("4 TERMS a SUM", this::mostTerms);
        edge("6 ( open at once", this::mostOpen);
        edge("40 clauses an ACT", this::mostClauses);
    }

    private void faults() {
        edge("PLACE (a TOKEN's first byte; the text's length at its end)", this::places);
        edge("the first come to as TOKENS are read one by one", this::firstFault);
        edge("of one TOKEN the least KIND", this::leastKind);
        edge("(or byte that is none, a WORD of 13 letters, an N of five digits) with which no text goes on", this::noToken);
        edge("2 RANGE: an N out of its bounds", this::outOfBounds);
        edge("3 TWICE: a second clause of that KIND for that deed, at the deed", this::twiceForADeed);
        edge("of jury, land, kin, challenge, hundred, bill, and of void or stand: at its first WORD", this::twiceWithoutADeed);
        edge("of strike: none", this::strikesTwice);
        edge("4 ROOM: a TEST, TERM, (, word or clause too many, at its first TOKEN", this::tooMany);
    }

    private void calls() {
        in("13");
        edge("THE TAPE is an ACT with a first day (0 .. 399)", this::actDays);
        edge("in SHIRES (bits, one or more)", this::actShires);
        edge("RANGE: no such day, SHIRES, a day below that of the latest ACT", this::belowTheLatest);
        edge("NONE with a FAULT", this::faultyActs);
        edge("NONE with a FAULT; FULL (in this order)", this::orderOfRefusals);
        in("14");
        edge("Of the latest act() that was not RANGE", this::latestFault);
        edge("its FAULT's KIND, 0 without (and ahead of any), 1: its PLACE (NONE)", this::noFault);
        edge("NONE for another what", this::faultWhat);
        in("15");
        edge("NONE when there is none such", this::toldNone);
    }

    /** An ACT of this text behind one that is there: its number, or the FAULT and nothing changed. */
    private void fault(String text, int kind, int place) {
        AssizeRide x = Clerk.under("jury 7;");
        due("act of " + text, say(x, text).act(0, 63), NONE);
        due("kind of " + text, x.fault(0), kind);
        due("place of " + text, x.fault(1), place);
        due("acts behind " + text, x.count(3), 1);
    }

    private AssizeRide good(String text) {
        AssizeRide x = Clerk.under("jury 7;");
        due("act of " + text, say(x, text).act(0, 63), 1);
        due("kind of " + text, x.fault(0), 0);
        due("place of " + text, x.fault(1), NONE);
        return x;
    }

    private static AssizeRide acts(int acts, String text) {
        AssizeRide x = new AssizeRide();
        for (int a = 0; a < acts; a++) {
            say(x, text).act(0, 63);
        }
        return x;
    }

    private void mostActs() {
        AssizeRide x = new AssizeRide();
        for (int a = 0; a < 30; a++) {
            due("act", say(x, "land " + a + ";").act(a, 63), a);
        }
        due("acts", x.count(3), 30);
        due("the last one's day", x.told(29, 0), 29);
        due("the last one holds", x.tells(8, 29, 0), 29);
        refusedReader("the 31st", () -> say(acts(30, "jury 3;"), "jury 4;"), y -> y.act(0, 63), FULL);
        AssizeRide z = say(acts(30, "jury 3;"), "jury 4;");
        z.act(0, 63);
        due("the 31st is no law", z.tells(7, 399, 0), 3);
        due("nor is it told of", z.told(30, 0), NONE);
        for (int i = 0; i < 3; i++) {
            due("the 31st again", say(z, "jury 4; " + forty().substring(8)).act(0, 63), FULL);
        }
        due("and a faulty one", say(z, "jury 4; jury 4;").act(0, 63), NONE);
    }

    private void firstDays() {
        AssizeRide x = new AssizeRide();
        due("day 5", say(x, "").act(5, 1), 0);
        due("day 4", say(x, "").act(4, 1), RANGE);
        due("day 5 again", say(x, "").act(5, 1), 1);
        due("day 399", say(x, "").act(399, 1), 2);
        due("day 398", say(x, "").act(398, 1), RANGE);
        due("day 399 again", say(x, "").act(399, 1), 3);
        due("acts", x.count(3), 4);
    }

    private void texts() {
        due("an empty text has no clauses", good("").told(1, 2), 0);
        due("blanks have none", good(" \n ").told(1, 2), 0);
        due("one clause", good("void;").told(1, 2), 1);
        fault(";", SYNTAX, 0);
        fault("void", SYNTAX, 4);
        fault("void;;", SYNTAX, 5);
        fault("void; ;", SYNTAX, 6);
        fault("void kin 3;", SYNTAX, 5);
        fault("void; kin 3", SYNTAX, 11);
    }

    /** Each clause is cut short behind each of its TOKENS: by the text's end, and by a sign that can't come. */
    private void cutClauses() {
        String[] clauses = {"deed t = a unless b", "words t a", "death t", "fine t 3", "clergy t", "refuse t", "keep t", "mend t",
            "jury 3", "land 3", "kin 3", "challenge 3", "hundred 3", "bill 3", "strike 0"};
        for (String clause : clauses) {
            good(clause + ";");
            for (int at = clause.indexOf(' '); at > 0; at = clause.indexOf(' ', at + 1)) {
                String start = clause.substring(0, at);
                boolean isWhole = start.equals("deed t = a");
                fault(start, SYNTAX, at);
                fault(start + " );", SYNTAX, at + 1);
                if (!isWhole) {
                    fault(start + ";", SYNTAX, at);
                }
            }
            fault(clause, SYNTAX, clause.length());
        }
    }

    private void clausesTooLong() {
        String[] clauses = {"deed t = a", "death t", "clergy t", "refuse t", "keep t", "mend t", "fine t 3", "jury 3",
            "land 3", "kin 3", "challenge 3", "hundred 3", "bill 3", "void", "stand", "strike 0 t"};
        for (String clause : clauses) {
            good(clause + ";");
            fault(clause + " b;", SYNTAX, clause.length() + 1);
            fault(clause + " 4;", SYNTAX, clause.length() + 1);
        }
        good("words t a b;");
        fault("words t a 4;", SYNTAX, 10);
        good("strike 0;");
        good("strike 0 t;");
        fault("strike 0 4;", SYNTAX, 9);
        fault("strike t;", SYNTAX, 7);
        fault("deed 3 = a;", SYNTAX, 5);
        fault("fine 3 3;", SYNTAX, 5);
        fault("jury t;", SYNTAX, 5);
        fault("what;", SYNTAX, 0);
    }

    private void brokenConditions() {
        fault("deed t = ();", SYNTAX, 10);
        fault("deed t = (a;", SYNTAX, 11);
        fault("deed t = (a", SYNTAX, 11);
        fault("deed t = a);", SYNTAX, 10);
        fault("deed t = (a));", SYNTAX, 12);
        fault("deed t = (a) b;", SYNTAX, 13);
        fault("deed t = (a)(b);", SYNTAX, 12);
        fault("deed t = a (b);", SYNTAX, 11);
        fault("deed t = not;", SYNTAX, 12);
        fault("deed t = a not b;", SYNTAX, 11);
        fault("deed t = a or;", SYNTAX, 13);
        fault("deed t = a and;", SYNTAX, 14);
        fault("deed t = a or or b;", SYNTAX, 14);
        fault("deed t = a unless;", SYNTAX, 17);
        fault("deed t = (a unless b);", SYNTAX, 12);
        fault("deed t = a unless b unless c;", SYNTAX, 20);
        fault("deed t = (a or b) is 3;", SYNTAX, 18);
        good("deed t = not not (not (a) and b) or c unless not (d);");
        due("and binds closer than or", weigh("a or b and c", "a;"), 1);
        due("but not than brackets", weigh("(a or b) and c", "a;"), 0);
        due("nor behind and", weigh("c and (a or b)", "b;c;"), 1);
        due("not binds closest", weigh("not a and b", ""), 0);
        due("but not than brackets", weigh("not (a and b)", ""), 1);
        due("not of two", weigh("not (a or b) or c", "a;"), 0);
        due("not twice", weigh("not not a", "a;"), 1);
        due("not of not in brackets", weigh("not (not a)", "a;"), 1);
    }

    private void brokenTests() {
        fault("deed t = a above;", SYNTAX, 16);
        fault("deed t = above a;", SYNTAX, 9);
        fault("deed t = a above b above c;", SYNTAX, 19);
        fault("deed t = a is b is c;", SYNTAX, 16);
        fault("deed t = a +;", SYNTAX, 12);
        fault("deed t = + a;", SYNTAX, 9);
        fault("deed t = a + + b;", SYNTAX, 13);
        fault("deed t = a + (b);", SYNTAX, 13);
        fault("deed t = a above (b);", SYNTAX, 17);
        fault("deed t = a above not b;", SYNTAX, 17);
        fault("deed t = a b;", SYNTAX, 11);
        fault("deed t = 1 2;", SYNTAX, 11);
        fault("deed t = a = b;", SYNTAX, 11);
        good("deed t = a + 1 above b + 2 and 3 below c or 4 is 5;");
    }

    private void joiningWords() {
        for (String word : JOINING) {
            if (!word.equals("not")) {
                fault("deed t = " + word + ";", SYNTAX, 9);
            }
            fault("deed t = a + " + word + ";", SYNTAX, 13);
            fault("deed t = a is " + word + ";", SYNTAX, 14);
            fault("deed t = a is 3 + " + word + ";", SYNTAX, 18);
            good("deed " + word + " = a; words " + word + " " + word + "; fine " + word + " 3; strike 0 " + word + ";");
            good("deed t = " + word + "s;");
        }
        fault("deed t = not not;", SYNTAX, 16);
        String[] clauses = {"deed", "words", "death", "fine", "clergy", "refuse", "keep", "mend", "jury", "land", "kin",
            "challenge", "hundred", "bill", "void", "stand", "strike"};
        for (String word : clauses) {
            good("deed " + word + " = " + word + ";");
        }
    }

    private int weigh(String condition, String facts) {
        return say(Clerk.under("deed t = " + condition + ";"), "t;" + facts).weigh(0, 0);
    }

    private void sumsAlone() {
        due("of 0", weigh("a", "a=0;"), 0);
        due("of what isn't told", weigh("a", ""), 0);
        due("of 1", weigh("a", "a=1;"), 1);
        due("of 9999", weigh("a", "a=9999;"), 1);
        due("0", weigh("0", ""), 0);
        due("1", weigh("1", ""), 1);
        due("0 + 0 + 0 + 0", weigh("0 + 0 + 0 + 0", ""), 0);
        due("0 + 0 + 0 + 1", weigh("0 + 0 + 0 + 1", ""), 1);
        due("a + b of 0 and 1", weigh("a + b", "b=1;"), 1);
        due("behind a test of two sums", weigh("a is 3 or b", "b;"), 1);
        due("behind a test of two sums, of 0", weigh("a above 3 or b", "b=0;"), 0);
    }

    private void relations() {
        int[][] asWant = {{4, 5}, {5, 5}, {6, 5}, {0, 0}, {9999, 9999}, {9998, 9999}};
        for (int[] two : asWant) {
            String facts = "a=" + two[0] + "; b=" + two[1] + ";";
            due("above of " + facts, weigh("a above b", facts), two[0] > two[1] ? 1 : 0);
            due("below of " + facts, weigh("a below b", facts), two[0] < two[1] ? 1 : 0);
            due("is of " + facts, weigh("a is b", facts), two[0] == two[1] ? 1 : 0);
        }
        String most = "9999 + 9999 + 9999 + 9999";
        due("four of the greatest are alike", weigh(most + " is " + most, ""), 1);
        due("and above one less", weigh(most + " above 9999 + 9999 + 9999 + 9998", ""), 1);
        due("but not above themselves", weigh(most + " above " + most, ""), 0);
        due("nor below", weigh(most + " below " + most, ""), 0);
    }

    private void unless() {
        due("neither", weigh("a unless b", ""), 0);
        due("the first", weigh("a unless b", "a;"), 1);
        due("the second", weigh("a unless b", "b;"), 0);
        due("both", weigh("a unless b", "a;b;"), 0);
        due("or binds closer", weigh("a or b unless c or d", "a;d;"), 0);
        due("on both sides", weigh("a or b unless c and d", "b;c;"), 1);
    }

    /** A clause of one N: the ends of its bounds are told, what is beside them is a FAULT at the N. */
    private void clauseBounds(String clause, int kind, int least, int most) {
        for (int n = least; n <= most; n++) {
            due("tells of " + clause + " " + n, good(clause + " " + n + ";").tells(kind, 0, 0), n);
        }
        if (least > 0) {
            fault(clause + " " + (least - 1) + ";", BOUNDS, clause.length() + 1);
        }
        fault(clause + " " + (most + 1) + ";", BOUNDS, clause.length() + 1);
        fault(clause + " 9999;", BOUNDS, clause.length() + 1);
    }

    private void landAndFine() {
        for (int n : new int[] {0, 1, 9998, 9999}) {
            due("land " + n, good("land " + n + ";").tells(8, 0, 0), n);
            due("fine " + n, say(good("fine t " + n + ";"), "t").tells(3, 0, 0), n);
        }
        fault("land 10000;", SYNTAX, 5);
        fault("fine t 10000;", SYNTAX, 7);
    }

    private void termBounds() {
        due("0", weigh("0 is a", ""), 1);
        due("9999", weigh("9999 is a", "a=9999;"), 1);
        due("9999 isn't 9998", weigh("9999 is a", "a=9998;"), 0);
        fault("deed t = 10000;", SYNTAX, 9);
        fault("deed t = a + 10000;", SYNTAX, 13);
    }

    private void strikeBounds() {
        AssizeRide x = new AssizeRide();
        due("strike 0 ahead of all", say(x, "strike 0;").act(0, 63), NONE);
        due("is out of bounds", 10 * x.fault(0) + x.fault(1), 10 * BOUNDS + 7);
        for (int there : new int[] {1, 2, 29}) {
            AssizeRide y = acts(there, "");
            due("strike itself, the " + there + "th", say(y, "strike " + there + ";").act(0, 63), NONE);
            due("is out of bounds", 10 * y.fault(0) + y.fault(1), 10 * BOUNDS + 7);
            due("strike the latest", say(y, "strike " + (there - 1) + ";").act(0, 63), there);
        }
        AssizeRide z = acts(30, "");
        due("the 31st strikes the last", say(z, "strike 29;").act(0, 63), FULL);
        due("without a fault", z.fault(0), 0);
        due("the 31st strikes itself", say(z, "strike 30;").act(0, 63), NONE);
        due("with a fault", z.fault(0), BOUNDS);
        fault("strike 9999;", BOUNDS, 7);
        fault("strike 1 t;", BOUNDS, 7);
    }

    private void wordsOfClause() {
        fault("words t;", SYNTAX, 7);
        due("one", say(good("words t a;"), "t").tells(1, 0, 0), 1);
        due("eight", say(good("words t a b c d e f g h;"), "t").tells(1, 0, 0), 8);
        due("eight alike", say(good("words t a a a a a a a a;"), "t").tells(1, 0, 0), 8);
        fault("words t a b c d e f g h i;", ROOM, 24);
        fault("words t a b c d e f g h i", ROOM, 24);
    }

    private void mostTests() {
        String twenty = "deed t = a" + repeat(" or b", 19);
        due("twenty", say(good(twenty + ";"), "t").tells(0, 0, 0), 20);
        fault(twenty + " or c;", ROOM, twenty.length() + 4);
        fault(twenty + " and (not c);", ROOM, twenty.length() + 10);
        due("twenty, the last behind unless", say(good("deed t = a" + repeat(" or b", 18) + " unless c;"), "t").tells(0, 0, 0), 20);
        fault(twenty + " unless c;", ROOM, twenty.length() + 8);
        due("one has two sums", say(good(twenty + " is 3;"), "t").tells(0, 0, 0), 20);
        AssizeRide x = good(twenty + "; deed u = a" + repeat(" and b", 19) + ";");
        due("twenty of another deed", say(x, "u").tells(0, 0, 0), 20);
        due("one", say(good("deed t = a;"), "t").tells(0, 0, 0), 1);
        String nested = "deed t = " + repeat("(a or ", 6) + "a" + repeat(" and b", 13) + repeat(")", 6);
        due("twenty in brackets", say(good(nested + ";"), "t").tells(0, 0, 0), 20);
        fault(nested + " or c;", ROOM, nested.length() + 4);
    }

    private void mostTerms() {
        good("deed t = a;");
        good("deed t = a+b+c+d is 1+2+3+4;");
        fault("deed t = a+b+c+d+e;", ROOM, 17);
        fault("deed t = a+b+c+d+5 is 1;", ROOM, 17);
        fault("deed t = 1 is a+b+c+d+e;", ROOM, 22);
        good("deed t = a+b+c+d or a+b+c+d and a+b+c+d;");
        due("the fourth counts", weigh("a+b+c+d", "d;"), 1);
        due("the fourth behind is counts", weigh("9 is a+b+c+d", "d=9;"), 1);
    }

    private void mostOpen() {
        good("deed t = ((((((a))))));");
        fault("deed t = (((((((a)))))));", ROOM, 15);
        good("deed t = ((((((a)))))) or ((((((b)))))) unless ((((((c))))));");
        fault("deed t = a unless (((((((c)))))));", ROOM, 24);
        good("deed t = (((((" + "(a) or (b) or (c)" + ")))));");
        fault("deed t = (((((" + "(a) or ((b))" + ")))));", ROOM, 22);
        good("deed t = not (not (not (not (not (not (not not a))))));");
        due("six deep it holds", weigh("((((((a))))))", "a;"), 1);
        String deepest = repeat("a or b and not (", 6) + "a or b and not c" + repeat(")", 6);
        due("all that can wait, six deep", weigh(deepest, "b;"), 1);
        due("and the innermost told", weigh(deepest, "b;c;"), 0);
        AssizeRide x = Clerk.under("deed t = " + deepest + ";");
        say(x, "t;b;").weigh(0, 0);
        due("seven of its tests hold", x.why(0), 0x2AAA);
        say(x, "t;b;c;").weigh(0, 0);
        due("the outermost lacks first", x.why(1), 0);
        say(x, "t;a;b;c;").weigh(0, 0);
        due("none lacks", x.why(1), NONE);
        say(x, "t;").weigh(0, 0);
        due("the outermost, if none is told", x.why(1), 0);
        due("and six times not", weigh("not (not (not (not (not (not (a))))))", "a;"), 1);
    }

    private static String forty() {
        StringBuilder text = new StringBuilder();
        for (int i = 0; i < 40; i++) {
            text.append("keep ").append((char) ('a' + i / 20)).append((char) ('a' + i % 20)).append(";");
        }
        return text.toString();
    }

    private void mostClauses() {
        String forty = forty();
        AssizeRide x = good(forty);
        due("forty", x.told(1, 2), 40);
        due("the fortieth is law", say(x, "bt").law(5, 0, 0), 1);
        fault(forty + "void;", ROOM, forty.length());
        fault(forty + "\n strike 0;", ROOM, forty.length() + 2);
        fault(forty + "deed t = a;", ROOM, forty.length());
        due("forty strikes", good(repeat("strike 0;", 40)).told(1, 2), 40);
        fault(repeat("strike 0;", 41), ROOM, 360);
        due("forty in the next act too", say(x, forty).act(0, 63), 2);
    }

    private void places() {
        fault("  what;", SYNTAX, 2);
        fault("jury\n\n  13;", BOUNDS, 8);
        fault("jury 3   ", SYNTAX, 9);
        fault("jury 3\n", SYNTAX, 7);
        fault("death   abcdefghijklmn;", SYNTAX, 8);
        fault("land   12345;", SYNTAX, 7);
        fault("death", SYNTAX, 5);
        fault("fine t 3;fine t", TWICE, 14);
    }

    private void firstFault() {
        fault("jury 13; what;", BOUNDS, 5);
        fault("what; jury 13;", SYNTAX, 0);
        fault("kin 3; kin 5;", TWICE, 7);
        fault("kin 5; kin 3;", BOUNDS, 4);
        fault("fine t 3; fine t 10000;", TWICE, 15);
        fault("fine t 3; fine t;", TWICE, 15);
        fault("deed t = a; deed t b;", TWICE, 17);
        fault("jury 3; jury", TWICE, 8);
        fault("words t a b c d e f g h i 3;", ROOM, 24);
        fault("deed t = a+b+c+d+e+;", ROOM, 17);
        fault("jury 13", BOUNDS, 5);
        fault("strike 5 abcdefghijklm;", BOUNDS, 7);
    }

    private void leastKind() {
        String forty = forty();
        String full = "jury 3; void; kin 1; " + forty.substring(24);
        due("forty of them", good(full).told(1, 2), 40);
        fault(full + "jury 3;", TWICE, full.length());
        fault(full + "stand;", TWICE, full.length());
        fault(full + "bill 3;", ROOM, full.length());
        fault(full + "keep bt;", ROOM, full.length());
        fault(full + "what;", SYNTAX, full.length());
        fault(full + "3;", SYNTAX, full.length());
        fault("words t a b c d e f g h abcdefghijklm;", SYNTAX, 24);
        fault("words t a b c d e f g h 3;", SYNTAX, 24);
        fault("deed t = a+b+c+d+or;", SYNTAX, 17);
        fault("deed t = a+b+c+d+12345;", SYNTAX, 17);
        fault("deed t = a+b+c+d+;", SYNTAX, 17);
        String twenty = "deed t = a" + repeat(" or b", 19);
        fault(twenty + " or and;", SYNTAX, twenty.length() + 4);
        fault(twenty + " or abcdefghijklm;", SYNTAX, twenty.length() + 4);
        fault(twenty + " or ;", SYNTAX, twenty.length() + 4);
        fault("deed t = ((((((a(b;", SYNTAX, 16);
    }

    private void noToken() {
        fault("jury 3; ?", SYNTAX, 8);
        fault("jury ?;", SYNTAX, 5);
        fault("jury 3?;", SYNTAX, 6);
        fault("deed t = a ! b;", SYNTAX, 11);
        fault("abcdefghijklm;", SYNTAX, 0);
        fault("death abcdefghijklm;", SYNTAX, 6);
        fault("deed t = abcdefghijklm;", SYNTAX, 9);
        fault("strike 0 abcdefghijklm;", SYNTAX, 9);
        fault("jury 00003;", SYNTAX, 5);
        fault("strike 00000;", SYNTAX, 7);
        fault("deed t = 00000;", SYNTAX, 9);
        good("death abcdefghijkl; jury 0003;");
    }

    private void outOfBounds() {
        fault("jury 0;", BOUNDS, 5);
        fault("jury 13;", BOUNDS, 5);
        fault("kin 5;", BOUNDS, 4);
        fault("challenge 13;", BOUNDS, 10);
        fault("hundred 13;", BOUNDS, 8);
        fault("bill 24;", BOUNDS, 5);
        fault("strike 1;", BOUNDS, 7);
        fault("void; jury   0000;", BOUNDS, 13);
    }

    private void twiceForADeed() {
        String[] clauses = {"deed x = a", "words x a", "death x", "fine x 3", "clergy x", "refuse x", "keep x", "mend x"};
        for (String clause : clauses) {
            String behind = clause + ";" + clause.replace('x', 'y') + ";";
            good(behind);
            fault(behind + clause + ";", TWICE, behind.length() + clause.indexOf('x'));
            AssizeRide x = good(behind);
            due("in the next act " + clause, say(x, behind).act(0, 63), 2);
        }
        fault("clergy x; refuse x;", TWICE, 17);
        fault("refuse x; clergy x;", TWICE, 17);
        good("deed x = a; words x a; death x; fine x 3; clergy x; keep x; mend x; strike 0 x;");
    }

    private void twiceWithoutADeed() {
        String[] clauses = {"jury 3", "land 3", "kin 3", "challenge 3", "hundred 3", "bill 3", "void", "stand"};
        for (String clause : clauses) {
            fault(clause + ";keep x;" + clause + ";", TWICE, clause.length() + 8);
            AssizeRide x = good(clause + ";");
            due("in the next act " + clause, say(x, clause + ";").act(0, 63), 2);
        }
        fault("void; stand;", TWICE, 6);
        fault("stand; void;", TWICE, 7);
        good("jury 3; land 3; kin 3; challenge 3; hundred 3; bill 3; void;");
    }

    private void strikesTwice() {
        due("four of them", good("strike 0; strike 0; strike 0 x; strike 0 x;").told(1, 2), 4);
    }

    private void tooMany() {
        String twenty = "deed t = a" + repeat(" or b", 19);
        fault(twenty + " or   c is 3;", ROOM, twenty.length() + 6);
        fault("deed t = a+b+c+d +  e;", ROOM, 20);
        fault("deed t = ((((((  (a)))))));", ROOM, 17);
        fault("words t a b c d e f g h   i;", ROOM, 26);
        fault(forty() + "  void;", ROOM, forty().length() + 2);
    }

    private static Supplier<AssizeRide> withText(String text) {
        return () -> say(Clerk.under("jury 7;"), text);
    }

    private void actDays() {
        within("day", 0, 399, RANGE, day -> say(new AssizeRide(), "void;").act(day, 1));
        for (int day : new int[] {LEAST, -1, 400, MOST}) {
            refusedReader("day " + day, withText("void;"), x -> x.act(day, 1), RANGE);
        }
        AssizeRide x = say(new AssizeRide(), "void;");
        x.act(399, 1);
        due("on the last day it holds", x.tells(13, 399, 0), 1);
        due("not ahead of it", x.tells(13, 398, 0), 0);
    }

    private void actShires() {
        within("shires", 1, 63, RANGE, shires -> say(new AssizeRide(), "void;").act(0, shires));
        for (int shires : new int[] {LEAST, -1, 0, 64, 65, 127, MOST}) {
            refusedReader("shires " + shires, withText("void;"), x -> x.act(0, shires), RANGE);
        }
        for (int s = 0; s < 6; s++) {
            AssizeRide x = say(new AssizeRide(), "void;");
            due("in shire " + s, x.act(0, 1 << s), 0);
            for (int o = 0; o < 6; o++) {
                due("void in " + o, x.tells(13, 0, o), s == o ? 1 : 0);
            }
        }
    }

    private void belowTheLatest() {
        AssizeRide x = new AssizeRide();
        say(x, "").act(7, 1);
        due("day 6", say(x, "").act(6, 2), RANGE);
        due("a faulty act of day 9", say(x, "what").act(9, 1), NONE);
        due("a refused one of day 9", say(x, "").act(9, 0), RANGE);
        due("leave day 7 the latest", say(x, "").act(7, 2), 1);
        due("also elsewhere", say(x, "").act(6, 4), RANGE);
        refusedReader("a day below", () -> {
            AssizeRide y = new AssizeRide();
            say(y, "").act(7, 1);
            return say(y, "void;");
        }, y -> y.act(6, 1), RANGE);
    }

    private void faultyActs() {
        refusedFault("what;");
        refusedFault("jury 3; deed t = a; words t a b; strike 0; land;");
        AssizeRide x = Clerk.under("jury 7;");
        say(x, "jury 3; deed t = a; strike 0; land;").act(0, 63);
        due("the jury as it was", x.tells(7, 0, 0), 7);
        due("no such deed", say(x, "t").tells(0, 0, 0), NONE);
        due("the next act's number", say(x, "deed u = b and c;").act(0, 63), 1);
        due("its clauses alone", x.told(1, 2), 1);
        due("its tests", say(x, "u").tells(0, 0, 0), 2);
        due("still no such deed", say(x, "t").tells(0, 0, 0), NONE);
        cutDeeds();
    }

    /** What a FAULT leaves open doesn't reach into the next text. */
    private void cutDeeds() {
        String[] cut = {"deed t = ((((((a", "deed t = not", "deed t = not (not (", "deed t = a or", "deed t = a and not", "deed t = a unless (b",
            "deed t = a" + repeat(" or a", 19) + " or", "deed t = a is", "deed t = a + b + c +", "words t a b c", "fine t"};
        for (String text : cut) {
            AssizeRide x = Clerk.under("jury 7;");
            due("act of " + text, say(x, text).act(0, 63), NONE);
            due("a good one behind it", say(x, "deed t = a; words t w;").act(0, 63), 1);
            due("its tests", say(x, "t").tells(0, 0, 0), 1);
            due("its words", say(x, "t").tells(1, 0, 0), 1);
            due("made", say(x, "t;a;").weigh(0, 0), 1);
            due("not made", say(x, "t;").weigh(0, 0), 0);
        }
    }

    private void refusedFault(String text) {
        AssizeRide x = Clerk.under("jury 7;");
        due("act of " + text, say(x, text).act(0, 63), NONE);
        due("acts", x.count(3), 1);
        due("bytes", x.count(7), 0);
        due("no act 1", x.told(1, 0), NONE);
        due("clauses of act 0", x.told(0, 2), 1);
    }

    private void orderOfRefusals() {
        AssizeRide x = acts(30, "jury 3;");
        due("a wrong day, a fault, no room", say(x, "what").act(400, 1), RANGE);
        due("wrong shires, a fault, no room", say(x, "what").act(0, 0), RANGE);
        due("a fault, no room", say(x, "what").act(0, 1), NONE);
        due("the fault", x.fault(0), SYNTAX);
        due("no room", say(x, "void;").act(0, 1), FULL);
        due("no fault", x.fault(0), 0);
        due("a wrong day, no room", say(x, "void;").act(-1, 1), RANGE);
        due("a wrong day, a fault", say(Clerk.under(""), "what").act(-1, 1), RANGE);
    }

    private void latestFault() {
        AssizeRide x = Clerk.under("");
        say(x, "jury 13;").act(0, 1);
        say(x, "what").act(-1, 1);
        due("a refused one leaves the kind", x.fault(0), BOUNDS);
        due("and the place", x.fault(1), 5);
        say(x, "void;").act(0, 1);
        due("a good one has none", x.fault(0), 0);
        due("and no place", x.fault(1), NONE);
        AssizeRide y = acts(30, "");
        say(y, "jury 13;").act(0, 1);
        due("a fault", y.fault(1), 5);
        say(y, "").act(0, 1);
        due("one for which there is no room has none", y.fault(0), 0);
        due("and no place", y.fault(1), NONE);
    }

    private void noFault() {
        AssizeRide x = new AssizeRide();
        due("kind ahead of any", x.fault(0), 0);
        due("place ahead of any", x.fault(1), NONE);
        say(x, "jury 13;").act(400, 1);
        due("kind behind a refused one", x.fault(0), 0);
        due("place behind a refused one", x.fault(1), NONE);
        say(x, "?").act(0, 1);
        due("a fault at the first byte", x.fault(0), SYNTAX);
        due("has place 0", x.fault(1), 0);
    }

    private void faultWhat() {
        AssizeRide x = new AssizeRide();
        say(x, "jury 13;").act(0, 1);
        for (int what : new int[] {LEAST, -1, 2, 3, MOST}) {
            due("what " + what, x.fault(what), NONE);
        }
    }

    private void toldNone() {
        due("ahead of all acts", new AssizeRide().told(0, 0), NONE);
        within("act", 0, 1, NONE, a -> acts(2, "void;").told(a, 2));
        within("what", 0, 2, NONE, what -> acts(2, "void;").told(1, what));
        AssizeRide x = new AssizeRide();
        say(x, "").act(0, 63);
        due("first day 0", x.told(0, 0), 0);
        due("all shires", x.told(0, 1), 63);
        due("no clauses", x.told(0, 2), 0);
    }
}
