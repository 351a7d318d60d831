/** Boundary cases of THE LAW by day and place, QUARRELS, FACTS and what LACKS: Terms II and III, promises 16 to 20. */
public final class EdgeLawTest extends Edges {
    private static final int[] WITHOUT = {NONE, 0, 0, 0, 0, 0, 0, 6, 20, 2, 2, 1, 12, 0};
    private static final String ALL_KINDS = "deed t = a and b; words t a b c; death t; fine t 9; clergy t; keep t; mend t; jury 3;"
            + "land 7; kin 4; challenge 5; hundred 8; bill 11; void;";
    private static final int[] ALL_TELL = {2, 3, 1, 9, 1, 1, 1, 3, 7, 4, 5, 8, 11, 1};

    public static void main(String[] args) {
        new EdgeLawTest().test();
    }

    @Override
    void sentences() {
        in("II");
        edge("if its ACT's first day isn't behind the day", this::firstDay);
        edge("the ACT holds in the SHIRE", this::places);
        edge("and it isn't STRUCK: no ACT with a greater number, that likewise is begun then and holds there", this::strikeDays);
        edge("has \"strike\" with its ACT's number and no W, or with its deed", this::strikeNumbers);
        edge("(a clause without a deed by \"strike\" without W alone)", this::strikeWithoutDeed);
        edge("that HOLD that of the ACT with the greatest number is THE LAW", this::greatestNumber);
        edge("(void and stand are of one KIND, so are clergy and refuse)", this::oneKind);
        edge("Without one: no such deed, no words, no death, fine 0, refuse, no keep, no mend, jury 6, land 20, kin 2, "
                + "challenge 2, hundred 1, bill 12, stand", this::without);
        edge("A QUARREL: two or more ACTS with the same first day as that of THE LAW", this::quarrels);
        edge("have such a clause that HOLDS", this::quarrelsOfWhatHolds);
        in("III");
        edge("{W [\"=\" N] \";\"} (1 if none is told)", this::factOfOne);
        edge("at most 20, each W once", this::mostFacts);
        edge("(Else NONE.)", this::noRow);
        edge("FACTS that aren't told are 0", this::untold);
        edge("(numbered from 0 as they stand, those behind \"unless\" too)", this::testNumbers);
        edge("the first TEST that, held otherwise, would make it so, the others as they are", this::firstLack);
        edge("99 if no one would", this::noLack);
        calls();
    }

    private void calls() {
        in("16");
        edge("(KINDS 0 .. 6; else nothing is on it, or it doesn't matter)", this::whatIsOnTheTape);
        edge("NONE: none", this::noLaw);
        edge("RANGE: no such KIND, day, SHIRE", () -> wrongQuestions(0));
        edge("STATE: no W is on it (KINDS 0 .. 6)", () -> wordless(0));
        in("17");
        edge("TESTS of a deed (NONE: no such deed)", this::testsOfADeed);
        edge("how many words, 1 or 0 of death, clergy, keep, mend, void; N of the others", this::tellsAll);
        edge("(Without a clause: as told above.)", this::tellsWithout);
        edge("RANGE, STATE likewise", () -> {
            wrongQuestions(1);
            wordless(1);
        });
        in("18");
        edge("the ACTS of a QUARREL, as bits; 0: there is none", this::quarrelBits);
        edge("RANGE, STATE likewise", () -> {
            wrongQuestions(2);
            wordless(2);
        });
        in("19");
        edge("THE TAPE is W \";\" and a row of FACTS", this::weighTexts);
        edge("1 if the deed W is MADE by THE LAW of a day in a SHIRE, else 0", this::weighByDay);
        edge("RANGE: no such day, SHIRE", this::weighRange);
        edge("NONE: it is none such; STATE: there is no such deed", this::weighOrder);
        in("20");
        edge("Of the latest weigh() that told 0 or 1", this::latestWeigh);
        edge("what LACKS (NONE if it is MADE)", this::whyMade);
        edge("NONE ahead of any, for another what", this::whyNone);
    }

    private static int act(AssizeRide x, int day, int shires, String text) {
        return say(x, text).act(day, shires);
    }

    /** Question 0 is law, 1 tells, 2 quarrel. */
    private static int ask(int question, AssizeRide x, String text, int kind, int day, int shire) {
        say(x, text);
        return question == 0 ? x.law(kind, day, shire) : question == 1 ? x.tells(kind, day, shire) : x.quarrel(kind, day, shire);
    }

    private static int law(AssizeRide x, int kind, int day, int shire) {
        return ask(0, x, "t", kind, day, shire);
    }

    private static int tells(AssizeRide x, int kind, int day, int shire) {
        return ask(1, x, "t", kind, day, shire);
    }

    private void firstDay() {
        for (int day : new int[] {1, 200, 399}) {
            AssizeRide x = new AssizeRide();
            act(x, day, 63, ALL_KINDS);
            for (int kind = 0; kind < 14; kind++) {
                due("kind " + kind + " on its first day " + day, law(x, kind, day, 0), 0);
                due("kind " + kind + " a day ahead of " + day, law(x, kind, day - 1, 0), NONE);
            }
        }
        AssizeRide y = new AssizeRide();
        act(y, 0, 63, ALL_KINDS);
        due("from day 0 on", law(y, 0, 0, 5), 0);
        due("to the last day", law(y, 13, 399, 5), 0);
    }

    private void places() {
        for (int s = 0; s < 6; s++) {
            AssizeRide x = new AssizeRide();
            act(x, 0, 63 & ~(1 << s), ALL_KINDS);
            for (int o = 0; o < 6; o++) {
                due("in " + o + " without " + s, law(x, 3, 0, o), s == o ? NONE : 0);
                due("jury in " + o + " without " + s, law(x, 7, 0, o), s == o ? NONE : 0);
            }
        }
    }

    private void strikeDays() {
        AssizeRide x = Clerk.under(ALL_KINDS);
        act(x, 50, 2, "strike 0;");
        for (int kind = 0; kind < 14; kind++) {
            due("kind " + kind + " struck on the day", law(x, kind, 50, 1), NONE);
            due("kind " + kind + " a day ahead", law(x, kind, 49, 1), 0);
            due("kind " + kind + " elsewhere", law(x, kind, 50, 0), 0);
            due("kind " + kind + " in the next shire", law(x, kind, 50, 2), 0);
        }
        due("struck on the last day", law(x, 0, 399, 1), NONE);
        AssizeRide y = Clerk.under("");
        act(y, 0, 63, "strike 0; jury 4;");
        due("an act doesn't strike itself", law(y, 7, 0, 0), 1);
        act(y, 0, 63, "jury 5; strike 1;");
        due("the later one on the same day", law(y, 7, 0, 0), 2);
        act(y, 0, 63, "strike 2;");
        due("a struck strike strikes still", law(y, 7, 0, 0), NONE);
    }

    private void strikeNumbers() {
        AssizeRide x = Clerk.under("fine t 1; fine u 2; deed t = a;");
        act(x, 0, 63, "fine t 3; fine u 4;");
        act(x, 0, 63, "strike 1 t;");
        due("the struck deed", tells(x, 3, 0, 0), 1);
        due("another deed", ask(1, x, "u", 3, 0, 0), 4);
        due("of another act", tells(x, 0, 0, 0), 1);
        act(x, 0, 63, "strike 0 t;");
        due("all of the deed's clauses", tells(x, 0, 0, 0), NONE);
        due("all its fines", tells(x, 3, 0, 0), 0);
        act(x, 0, 63, "strike 1;");
        due("the act without a word", ask(1, x, "u", 3, 0, 0), 2);
    }

    private void strikeWithoutDeed() {
        AssizeRide x = Clerk.under("void; jury 3; death t;");
        act(x, 0, 63, "strike 0 t; strike 0 jury; strike 0 void;");
        due("jury", law(x, 7, 0, 0), 0);
        due("void", law(x, 13, 0, 0), 0);
        due("the deed's", law(x, 2, 0, 0), NONE);
        act(x, 0, 63, "strike 0;");
        due("jury", law(x, 7, 0, 0), NONE);
        due("void", law(x, 13, 0, 0), NONE);
    }

    private void greatestNumber() {
        AssizeRide x = new AssizeRide();
        for (int a = 0; a < 30; a++) {
            act(x, a, 63, "land " + (100 + a) + ";");
        }
        for (int day : new int[] {0, 1, 28, 29, 399}) {
            due("land on " + day, tells(x, 8, day, 0), 100 + Math.min(day, 29));
            due("by act on " + day, law(x, 8, day, 0), Math.min(day, 29));
        }
        AssizeRide y = Clerk.under("fine t 5;");
        act(y, 0, 63, "fine t 5;");
        act(y, 0, 63, "fine u 5;");
        due("of one day that of the greatest", law(y, 3, 0, 0), 1);
    }

    private void oneKind() {
        AssizeRide x = Clerk.under("clergy t; void;");
        act(x, 1, 63, "refuse t; stand;");
        act(x, 2, 63, "clergy t; void;");
        for (int kind : new int[] {4, 13}) {
            for (int day = 0; day < 3; day++) {
                due("kind " + kind + " on " + day, tells(x, kind, day, 0), day == 1 ? 0 : 1);
                due("law of kind " + kind + " on " + day, law(x, kind, day, 0), day);
            }
        }
    }

    private void without() {
        AssizeRide x = new AssizeRide();
        for (int kind = 0; kind < 14; kind++) {
            due("kind " + kind, tells(x, kind, 0, 0), WITHOUT[kind]);
            due("no law of kind " + kind, law(x, kind, 399, 5), NONE);
        }
        AssizeRide y = Clerk.under("");
        act(y, 1, 63, ALL_KINDS);
        act(y, 2, 63, "strike 1;");
        for (int kind = 0; kind < 14; kind++) {
            due("kind " + kind + " ahead of it", tells(y, kind, 0, 0), WITHOUT[kind]);
            due("kind " + kind + " struck", tells(y, kind, 2, 0), WITHOUT[kind]);
            due("kind " + kind + " between", tells(y, kind, 1, 0), ALL_TELL[kind]);
        }
    }

    private static int quarrel(AssizeRide x, int kind, int day, int shire) {
        return ask(2, x, "t", kind, day, shire);
    }

    private void quarrels() {
        AssizeRide x = new AssizeRide();
        due("without an act", quarrel(x, 7, 5, 0), 0);
        act(x, 5, 63, "jury 3; fine t 3;");
        due("one act", quarrel(x, 7, 5, 0), 0);
        act(x, 5, 63, "jury 3; fine u 3;");
        due("two acts", quarrel(x, 7, 5, 0), 3);
        due("of unlike deeds", quarrel(x, 3, 5, 0), 0);
        act(x, 6, 63, "jury 3; fine t 3;");
        due("a later one alone", quarrel(x, 7, 6, 0), 0);
        due("a day ahead of it", quarrel(x, 7, 5, 0), 3);
        due("a day ahead of all", quarrel(x, 7, 4, 0), 0);
        act(x, 6, 63, "jury 4;");
        due("two later ones", quarrel(x, 7, 6, 0), 12);
        due("of two days", quarrel(x, 3, 6, 0), 0);
        act(x, 6, 63, "jury 4;");
        due("three", quarrel(x, 7, 6, 0), 28);
        due("on the last day", quarrel(x, 7, 399, 0), 28);
    }

    private void quarrelsOfWhatHolds() {
        AssizeRide x = Clerk.under("jury 3;");
        act(x, 0, 1, "jury 4;");
        act(x, 0, 2, "jury 5;");
        due("in both", quarrel(x, 7, 0, 0), 3);
        due("in the other", quarrel(x, 7, 0, 1), 5);
        due("in neither", quarrel(x, 7, 0, 2), 0);
        act(x, 1, 63, "strike 0;");
        due("struck", quarrel(x, 7, 1, 0), 0);
        due("a day ahead", quarrel(x, 7, 0, 0), 3);
        due("clergy and refuse", quarrelOf("clergy t;", "refuse t;", 4), 3);
        due("void and stand", quarrelOf("stand;", "void;", 13), 3);
        due("two deeds alike", quarrelOf("deed t = a;", "deed t = a;", 0), 3);
    }

    private static int quarrelOf(String first, String second, int kind) {
        AssizeRide x = Clerk.under(first);
        act(x, 0, 63, second);
        return quarrel(x, kind, 0, 0);
    }

    private int weigh(String condition, String facts) {
        return say(Clerk.under("deed t = " + condition + ";"), "t;" + facts).weigh(0, 0);
    }

    private void factOfOne() {
        due("it is 1", weigh("a is 1", "a;"), 1);
        due("not 0, nor 2", weigh("a is 0 or a is 2", "a;"), 0);
        due("told as 0", weigh("a is 0", "a=0;"), 1);
        due("told as 9999", weigh("a is 9999", "a=9999;"), 1);
        due("five figures are none", weigh("a", "a=10000;"), NONE);
        due("naughts ahead", weigh("a is 7", "a=0007;"), 1);
        due("an empty row", weigh("a is 0", ""), 1);
    }

    private static String facts(int many) {
        StringBuilder row = new StringBuilder();
        for (int i = 0; i < many; i++) {
            row.append((char) ('a' + i)).append(";");
        }
        return row.toString();
    }

    private void mostFacts() {
        due("twenty", weigh("t", facts(20)), 1);
        due("twenty-one", weigh("t", facts(21)), NONE);
        due("22", weigh("t", facts(22)), NONE);
        due("none", weigh("t", ""), 0);
        due("one twice", weigh("a", "a;b;a;"), NONE);
        due("one twice, unlike", weigh("a", "a=1;a=2;"), NONE);
        due("the twentieth again", weigh("t", facts(19) + "a;"), NONE);
        due("twenty with numbers", weigh("t is 8", facts(19) + "t=8;"), 1);
    }

    private void noRow() {
        String[] wrong = {"a", "a=3", "a=", "a=;", "=3;", "a=b;", "3;", ";", "a;;", "a b;", "a 3;", "a==3;", "a=3 4;", "a+b;",
            "(a);", "abcdefghijklm;", "a=12345;", "a;B;", "a,b;", "a;?"};
        for (String text : wrong) {
            due("weigh of " + text, weigh("a", text), NONE);
        }
        due("a good one", weigh("a", " a \n = 3 ; b;"), 1);
    }

    private void untold() {
        due("is 0", weigh("b is 0", "a;"), 1);
        due("isn't above 0", weigh("b", "a;"), 0);
        due("adds nothing", weigh("a + b is 3", "a=3;"), 1);
    }

    private void testNumbers() {
        AssizeRide x = Clerk.under("deed t = a or b unless c or d;");
        String[] facts = {"", "a;", "b;", "c;", "d;", "a;b;c;d;"};
        int[] met = {0, 1, 2, 4, 8, 15};
        for (int i = 0; i < facts.length; i++) {
            say(x, "t;" + facts[i]).weigh(0, 0);
            due("met by " + facts[i], x.why(0), met[i]);
        }
        AssizeRide y = Clerk.under("deed t = " + repeat("a and ", 19) + "b;");
        say(y, "t;b;").weigh(0, 0);
        due("the twentieth", y.why(0), 1 << 19);
        say(y, "t;a;b;").weigh(0, 0);
        due("all twenty", y.why(0), (1 << 20) - 1);
    }

    private int lacks(String condition, String facts) {
        AssizeRide x = Clerk.under("deed t = " + condition + ";");
        say(x, "t;" + facts).weigh(0, 0);
        return x.why(1);
    }

    private void firstLack() {
        due("of one", lacks("a", ""), 0);
        due("the first of two", lacks("a or b", ""), 0);
        due("the second", lacks("a and b", "a;"), 1);
        due("the twentieth", lacks(repeat("a and ", 19) + "b", "a;"), 19);
        due("one that holds", lacks("a and not b", "a;b;"), 1);
        due("behind unless", lacks("a unless b", "a;b;"), 1);
        due("the others as they are", lacks("a and b or c", ""), 2);
        due("a number's own", lacks("a and 0", "a;"), 1);
    }

    private void noLack() {
        due("two lack", lacks("a and b", ""), 99);
        due("not the first, and the second", lacks("a unless b", "b;"), 99);
        due("one alone is enough", lacks("a and b", "b;"), 0);
        due("three of three", lacks("a and b and c", ""), 99);
    }

    private void whatIsOnTheTape() {
        AssizeRide x = Clerk.under(ALL_KINDS);
        for (int kind = 0; kind < 7; kind++) {
            due("kind " + kind + " with a word", ask(0, x, "t", kind, 0, 0), 0);
            due("kind " + kind + " with another word", ask(0, x, "u", kind, 0, 0), NONE);
            due("kind " + kind + " with none", ask(0, x, "", kind, 0, 0), STATE);
        }
        for (int kind = 7; kind < 14; kind++) {
            for (String text : new String[] {"", "t", "u", "3;", "two words", "?"}) {
                due("kind " + kind + " with " + text, ask(0, x, text, kind, 0, 0), 0);
            }
        }
    }

    private void noLaw() {
        AssizeRide x = new AssizeRide();
        for (int kind = 0; kind < 14; kind++) {
            due("kind " + kind, law(x, kind, 0, 0), NONE);
        }
    }

    private void wrongQuestions(int question) {
        within("kind", 0, 13, RANGE, kind -> ask(question, Clerk.under(ALL_KINDS), "t", kind, 0, 0));
        within("day", 0, 399, RANGE, day -> ask(question, Clerk.under(ALL_KINDS), "t", 3, day, 0));
        within("day of a jury", 0, 399, RANGE, day -> ask(question, Clerk.under(ALL_KINDS), "", 7, day, 0));
        within("shire", 0, 5, RANGE, shire -> ask(question, Clerk.under(ALL_KINDS), "t", 0, 0, shire));
        within("shire of a jury", 0, 5, RANGE, shire -> ask(question, Clerk.under(ALL_KINDS), "", 13, 0, shire));
    }

    private void wordless(int question) {
        AssizeRide x = Clerk.under(ALL_KINDS);
        for (int kind = 0; kind < 7; kind++) {
            for (String text : new String[] {"", " \n", "t t", "3", "t;", "t 3", "abcdefghijklm", "T", "?"}) {
                due("kind " + kind + " of " + text, ask(question, x, text, kind, 0, 0), STATE);
            }
            due("kind " + kind + " with blanks about it", ask(question, x, "\n t ", kind, 0, 0) == STATE ? 1 : 0, 0);
            due("RANGE ahead of STATE", ask(question, x, "", kind, 400, 0), RANGE);
            due("a wrong shire ahead of STATE", ask(question, x, "", kind, 0, 6), RANGE);
        }
        due("a wrong kind without a word", ask(question, x, "", -1, 0, 0), RANGE);
    }

    private void testsOfADeed() {
        AssizeRide x = Clerk.under("deed t = a; deed u = " + repeat("a or ", 19) + "a; fine v 3;");
        due("one", ask(1, x, "t", 0, 0, 0), 1);
        due("twenty", ask(1, x, "u", 0, 0, 0), 20);
        due("no such deed", ask(1, x, "w", 0, 0, 0), NONE);
        due("a fine is no deed", ask(1, x, "v", 0, 0, 0), NONE);
    }

    private void tellsAll() {
        AssizeRide x = Clerk.under(ALL_KINDS);
        for (int kind = 0; kind < 14; kind++) {
            due("kind " + kind, tells(x, kind, 0, 0), ALL_TELL[kind]);
        }
        AssizeRide y = Clerk.under("refuse t; stand; fine t 0; land 0; bill 0;");
        for (int kind : new int[] {3, 4, 8, 12, 13}) {
            due("0 of kind " + kind, tells(y, kind, 0, 0), 0);
            due("by an act, kind " + kind, law(y, kind, 0, 0), 0);
        }
    }

    private void tellsWithout() {
        AssizeRide x = Clerk.under(ALL_KINDS);
        for (int kind = 0; kind < 7; kind++) {
            due("another deed, kind " + kind, ask(1, x, "u", kind, 0, 0), WITHOUT[kind]);
        }
        AssizeRide y = new AssizeRide();
        for (int kind = 0; kind < 14; kind++) {
            due("kind " + kind, tells(y, kind, 399, 5), WITHOUT[kind]);
        }
    }

    private void quarrelBits() {
        AssizeRide x = new AssizeRide();
        for (int a = 0; a < 30; a++) {
            due("quarrel of " + a, quarrel(x, 7, 0, 0), a < 2 ? 0 : (1 << a) - 1);
            act(x, 0, 63, "jury 3;");
        }
        due("of all thirty", quarrel(x, 7, 0, 0), (1 << 30) - 1);
        due("of another kind", quarrel(x, 8, 0, 0), 0);
    }

    private void weighTexts() {
        AssizeRide x = Clerk.under("deed t = a;");
        due("no facts", say(x, "t;").weigh(0, 0), 0);
        due("a fact", say(x, "t;a;").weigh(0, 0), 1);
        for (String text : new String[] {"", "t", ";", "; a;", "t a;", "t = 3; a;", "3; a;", "t; a", "abcdefghijklm; a;", "t?; a;"}) {
            due("weigh of " + text, say(x, text).weigh(0, 0), NONE);
        }
        due("the deed's word as a fact too", say(x, "t;t;a;").weigh(0, 0), 1);
        due("twenty facts beside it", say(x, "t;" + facts(20)).weigh(0, 0), 1);
        due("twenty-one beside it", say(x, "t;" + facts(21)).weigh(0, 0), NONE);
    }

    private void weighByDay() {
        AssizeRide x = new AssizeRide();
        act(x, 5, 1, "deed t = a;");
        act(x, 9, 63, "deed t = b;");
        due("ahead of it", say(x, "t;a;").weigh(4, 0), STATE);
        due("on its day", say(x, "t;a;").weigh(5, 0), 1);
        due("the day ahead of the next", say(x, "t;a;").weigh(8, 0), 1);
        due("on that day", say(x, "t;a;").weigh(9, 0), 0);
        due("elsewhere", say(x, "t;a;").weigh(8, 1), STATE);
        due("on the last day", say(x, "t;b;").weigh(399, 5), 1);
    }

    private void weighRange() {
        within("day", 0, 399, RANGE, day -> say(Clerk.under("deed t = a;"), "t;").weigh(day, 0));
        within("shire", 0, 5, RANGE, shire -> say(Clerk.under("deed t = a;"), "t;").weigh(0, shire));
        for (int day : new int[] {-1, 400}) {
            refusedReader("day " + day, () -> say(weighed(), "t;"), x -> x.weigh(day, 0), RANGE);
        }
    }

    private void weighOrder() {
        AssizeRide x = Clerk.under("deed t = a;");
        due("a wrong day and no row", say(x, "u; a").weigh(400, 0), RANGE);
        due("no row and no deed", say(x, "u; a").weigh(0, 0), NONE);
        due("no deed", say(x, "u; a;").weigh(0, 0), STATE);
        refusedReader("no row", () -> say(weighed(), "t; b"), y -> y.weigh(0, 0), NONE);
        refusedReader("no deed", () -> say(weighed(), "u; b;"), y -> y.weigh(0, 0), STATE);
    }

    private static AssizeRide weighed() {
        AssizeRide x = Clerk.under("deed t = a and b;");
        say(x, "t;b;").weigh(0, 0);
        return x;
    }

    private void latestWeigh() {
        AssizeRide x = weighed();
        due("met", x.why(0), 2);
        due("lacks", x.why(1), 0);
        say(x, "t;a;").weigh(400, 0);
        say(x, "t;a").weigh(0, 0);
        say(x, "u;a;").weigh(0, 0);
        due("met still", x.why(0), 2);
        due("lacks still", x.why(1), 0);
        say(x, "t;a;").weigh(0, 0);
        due("met by the next", x.why(0), 1);
        due("it lacks", x.why(1), 1);
    }

    private void whyMade() {
        AssizeRide x = weighed();
        say(x, "t;a;b;").weigh(0, 0);
        due("met", x.why(0), 3);
        due("made", x.why(1), NONE);
        AssizeRide y = Clerk.under("deed t = not a;");
        say(y, "t;").weigh(0, 0);
        due("made by no test that holds", y.why(0), 0);
        due("lacks none", y.why(1), NONE);
        say(y, "t;a;").weigh(0, 0);
        due("lacks the first", y.why(1), 0);
    }

    private void whyNone() {
        AssizeRide x = Clerk.under("deed t = a;");
        due("met ahead of any", x.why(0), NONE);
        due("lacks ahead of any", x.why(1), NONE);
        say(x, "t").weigh(0, 0);
        due("behind one that told neither", x.why(0), NONE);
        say(x, "t;").weigh(0, 0);
        due("met", x.why(0), 0);
        for (int what : new int[] {LEAST, -1, 2, MOST}) {
            due("what " + what, x.why(what), NONE);
        }
    }
}
