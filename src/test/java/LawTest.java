/** Promises 13 to 20: ACTS and their FAULTS, THE LAW, deeds that are MADE. */
public final class LawTest {
    private static final Clerk c = new Clerk();

    public static void main(String[] args) {
        acts();
        faults();
        faultsByRoom();
        faultsOfTwice();
        lawByDayAndPlace();
        lawWithout();
        strikes();
        quarrels();
        weighing();
        conditions();
        rowsOfFacts();
        c.close();
    }

    private static int act(AssizeRide x, int day, int shires, String text) {
        return Clerk.say(x, text).act(day, shires);
    }

    private static void acts() {
        AssizeRide x = new AssizeRide();
        c.due("fault ahead of any", x.fault(0), 0);
        c.due("place ahead of any", x.fault(1), Clerk.NONE);
        c.due("an empty text", act(x, 3, 63, ""), 0);
        c.due("its clauses", x.told(0, 2), 0);
        c.due("day -1", act(x, -1, 1, ""), Clerk.RANGE);
        c.due("day 400", act(x, 400, 1, ""), Clerk.RANGE);
        c.due("no shires", act(x, 3, 0, ""), Clerk.RANGE);
        c.due("a seventh shire", act(x, 3, 64, ""), Clerk.RANGE);
        c.due("shires below", act(x, 3, -1, ""), Clerk.RANGE);
        c.due("a day below the latest", act(x, 2, 1, ""), Clerk.RANGE);
        c.due("the same day", act(x, 3, 5, "jury 3 ;\n land 7;"), 1);
        c.due("first day", x.told(1, 0), 3);
        c.due("shires", x.told(1, 1), 5);
        c.due("clauses", x.told(1, 2), 2);
        c.due("told what 3", x.told(1, 3), Clerk.NONE);
        c.due("told what -1", x.told(1, -1), Clerk.NONE);
        c.due("told no act", x.told(2, 0), Clerk.NONE);
        c.due("told act -1", x.told(-1, 0), Clerk.NONE);
        c.due("a fault", act(x, 4, 1, "jury 3; what;"), Clerk.NONE);
        c.due("kind", x.fault(0), 1);
        c.due("place", x.fault(1), 8);
        c.due("fault what 2", x.fault(2), Clerk.NONE);
        c.due("fault what -1", x.fault(-1), Clerk.NONE);
        c.due("a refused one", act(x, 0, 1, "jury 99;"), Clerk.RANGE);
        c.due("keeps the fault", x.fault(1), 8);
        c.due("no act of it", x.count(3), 2);
        AssizeRide y = new AssizeRide();
        act(y, 0, 1, "jury 3; deed t = a; words t a b; land;");
        c.due("none of its clauses is in the next", act(y, 0, 1, "deed t = b; jury 4;"), 0);
        c.due("clauses of the next", y.told(0, 2), 2);
        c.due("the next deed is its own", Clerk.say(y, "t; b;").weigh(0, 0), 1);
        c.due("and has its own tests", Clerk.say(y, "t; a;").weigh(0, 0), 0);
        c.due("none of them is met", y.why(0), 0);
        c.due("the faulty jury isn't there", x.tells(7, 399, 1), 6);
        for (int a = 2; a < 30; a++) {
            c.due("act " + a, act(x, 10, 1, "land 1;"), a);
        }
        c.due("clauses of a later act", x.told(2, 2), 1);
        c.due("fault ahead of FULL", act(x, 10, 1, "land;"), Clerk.NONE);
        c.due("RANGE ahead of FULL", act(x, 9, 1, "land 1;"), Clerk.RANGE);
        c.due("the 31st", act(x, 10, 1, "land 2;"), Clerk.FULL);
        c.due("it has no fault", x.fault(0), 0);
        c.due("it has no place", x.fault(1), Clerk.NONE);
        c.due("it doesn't hold", x.tells(8, 10, 0), 1);
    }

    private static void fault(String text, int kind, int place) {
        AssizeRide x = new AssizeRide();
        c.due("act " + text, act(x, 0, 1, text), kind == 0 ? 0 : Clerk.NONE);
        c.due("kind of " + text, x.fault(0), kind);
        c.due("place of " + text, x.fault(1), place);
        c.due("nothing is kept of " + text, x.count(3), kind == 0 ? 1 : 0);
    }

    private static void faults() {
        fault("deed", 1, 4);
        fault("deed  ", 1, 6);
        fault("deed 3", 1, 5);
        fault("deed x y", 1, 7);
        fault("deed x = ", 1, 9);
        fault("deed x = a", 1, 10);
        fault("deed x = a b;", 1, 11);
        fault("deed x = ;", 1, 9);
        fault("deed x = );", 1, 9);
        fault("deed x = a);", 1, 10);
        fault("deed x = (a unless b);", 1, 12);
        fault("deed x = a unless b unless c;", 1, 20);
        fault("deed x = a unless;", 1, 17);
        fault("deed x = a not b;", 1, 11);
        fault("deed x = a + not;", 1, 13);
        fault("deed x = a +;", 1, 12);
        fault("deed x = a above b above c;", 1, 19);
        fault("deed x = a is is;", 1, 14);
        fault("deed x = (a) is 3;", 1, 13);
        fault("deed x = (a) + 3;", 1, 13);
        fault("deed x = (a + b) or ();", 1, 21);
        fault("deed x = a and or b;", 1, 15);
        fault("deed x = a; ;", 1, 12);
        fault("deed or = a; deed deed = b; words and or;", 0, Clerk.NONE);
        fault("words x 3;", 1, 8);
        fault("words x a 3;", 1, 10);
        fault("death x y;", 1, 8);
        fault("death;", 1, 5);
        fault("fine x;", 1, 6);
        fault("fine 3;", 1, 5);
        fault("fine x 3 4;", 1, 9);
        fault("jury;", 1, 4);
        fault("jury x;", 1, 5);
        fault("jury 3 x;", 1, 7);
        fault("jury 3", 1, 6);
        fault("void x;", 1, 5);
        fault("stand 3;", 1, 6);
        fault("strike x;", 1, 7);
        fault("strike;", 1, 6);
        fault(";", 1, 0);
        fault("3;", 1, 0);
        fault("(", 1, 0);
        fault("\tjury 3;", 1, 0);
        fault("jury 3; Land 4;", 1, 8);
        fault("jury 00003;", 1, 5);
        fault("jury 0003;", 0, Clerk.NONE);
        fault("finex3;", 1, 0);
        fault("fine x3;jury 3;land 9999;", 0, Clerk.NONE);
        fault("death abcdefghijkl;", 0, Clerk.NONE);
        fault("death abcdefghijklm;", 1, 6);
        fault("jury 1;", 0, Clerk.NONE);
        fault("jury 12;", 0, Clerk.NONE);
        fault("jury 13;", 2, 5);
        fault("kin 0;", 0, Clerk.NONE);
        fault("kin 4;", 0, Clerk.NONE);
        fault("kin 5;", 2, 4);
        fault("challenge 12;", 0, Clerk.NONE);
        fault("challenge 13;", 2, 10);
        fault("hundred 12;", 0, Clerk.NONE);
        fault("hundred 13;", 2, 8);
        fault("bill 23;", 0, Clerk.NONE);
        fault("bill 24;", 2, 5);
        fault("land 0;", 0, Clerk.NONE);
        fault("fine x 9999; fine y 0;", 0, Clerk.NONE);
        fault("strike 0;", 2, 7);
    }

    private static String repeat(String text, int times) {
        StringBuilder b = new StringBuilder();
        for (int i = 0; i < times; i++) {
            b.append(text);
        }
        return b.toString();
    }

    private static void faultsByRoom() {
        fault("deed x = a" + repeat(" or a", 19) + ";", 0, Clerk.NONE);
        fault("deed x = a" + repeat(" or a", 20) + ";", 4, 9 + 100);
        fault("deed x = a" + repeat(" or a", 19) + " or;", 1, 9 + 1 + 95 + 3);
        fault("deed x = a" + repeat(" or a", 10) + " unless a" + repeat(" or a", 9) + ";", 4, 9 + 51 + 8 + 45);
        fault("deed x = a+b+c+4 is 1+2+3+4;", 0, Clerk.NONE);
        fault("deed x = a+b+c+4 is 1+2+3+4+e;", 4, 28);
        fault("deed x = a+b+c+d+or;", 1, 17);
        fault("deed x = ((((((a))))));", 0, Clerk.NONE);
        fault("deed x = ((((((a)))))) and ((((((b))))));", 0, Clerk.NONE);
        fault("deed x = ((((((a) or (b)))))) and (((((not((b)))))));", 4, 43);
        fault("deed x = " + repeat("not ", 250) + "a;", 0, Clerk.NONE);
        fault("words x a b c d e f g h;", 0, Clerk.NONE);
        fault("words x a b c d e f g h 3;", 1, 24);
        StringBuilder forty = new StringBuilder();
        for (int i = 0; i < 20; i++) {
            forty.append("keep ").append((char) ('a' + i)).append(";mend ").append((char) ('a' + i)).append(";");
        }
        fault(forty.toString(), 0, Clerk.NONE);
        fault(forty + "jury 3;", 4, forty.length());
        fault(forty + "keep a;", 4, forty.length());
        fault(forty + "what;", 1, forty.length());
        String full = "void;" + forty.substring(0, forty.length() - 7);
        fault(full, 0, Clerk.NONE);
        fault(full + "stand;", 3, full.length());
    }

    private static void faultsOfTwice() {
        String[] plain = {"jury 3", "land 3", "kin 3", "challenge 3", "hundred 3", "bill 3", "void", "stand"};
        for (String clause : plain) {
            fault(clause + ";" + clause + ";", 3, clause.length() + 1);
        }
        fault("stand; void;", 3, 7);
        String[] ofDeed = {"deed x = a", "words x a", "death x", "fine x 1", "clergy x", "refuse x", "keep x", "mend x"};
        for (String clause : ofDeed) {
            int place = clause.length() + 1 + clause.indexOf('x');
            fault(clause + ";" + clause + ";", 3, place);
            fault(clause + ";" + clause.replace('x', 'y') + ";", 0, Clerk.NONE);
        }
        fault("refuse x; clergy x;", 3, 17);
        fault("deed x = a; words x a; death x; fine x 1; clergy x; keep x; mend x;", 0, Clerk.NONE);
        AssizeRide x = Clerk.under("jury 2;");
        c.due("strikes come twice", act(x, 0, 1, "strike 0; strike 0; strike 0 x; strike 0 x;"), 1);
        c.due("strike the one itself", act(x, 0, 1, "strike 2;"), Clerk.NONE);
        c.due("is out of bounds", x.fault(0), 2);
    }

    private static int ask(AssizeRide x, String question, String deed, int kind, int day, int shire) {
        Clerk.say(x, deed);
        switch (question) {
            case "law": return x.law(kind, day, shire);
            case "tells": return x.tells(kind, day, shire);
            default: return x.quarrel(kind, day, shire);
        }
    }

    private static void lawByDayAndPlace() {
        AssizeRide x = new AssizeRide();
        act(x, 5, 3, "deed theft = a and b or c; words theft x y z; death theft; fine theft 12; clergy theft;"
                + "keep theft; mend theft; jury 3; land 40; kin 1; challenge 4; hundred 5; bill 6; void;");
        int[] tells = {3, 3, 1, 12, 1, 1, 1, 3, 40, 1, 4, 5, 6, 1};
        for (int kind = 0; kind < 14; kind++) {
            String deed = kind < 7 ? " theft\n" : "";
            c.due("law " + kind, ask(x, "law", deed, kind, 5, 1), 0);
            c.due("tells " + kind, ask(x, "tells", deed, kind, 5, 1), tells[kind]);
            c.due("law ahead " + kind, ask(x, "law", deed, kind, 4, 1), Clerk.NONE);
            c.due("law elsewhere " + kind, ask(x, "law", deed, kind, 5, 2), Clerk.NONE);
            c.due("quarrel " + kind, ask(x, "quarrel", deed, kind, 5, 1), 0);
        }
        act(x, 9, 1, "refuse theft; jury 9; stand; deed theft = a;");
        c.due("later refuse", ask(x, "tells", "theft", 4, 9, 0), 0);
        c.due("by the later act", ask(x, "law", "theft", 4, 9, 0), 1);
        c.due("clergy before", ask(x, "tells", "theft", 4, 8, 0), 1);
        c.due("clergy elsewhere", ask(x, "tells", "theft", 4, 9, 1), 1);
        c.due("stand", ask(x, "tells", "", 13, 9, 0), 0);
        c.due("void elsewhere", ask(x, "tells", "", 13, 9, 1), 1);
        c.due("jury", ask(x, "tells", "whatever this is", 7, 9, 0), 9);
        c.due("tests", ask(x, "tells", "theft", 0, 9, 0), 1);
        c.due("words still", ask(x, "tells", "theft", 1, 9, 0), 3);
    }

    private static void lawWithout() {
        AssizeRide x = new AssizeRide();
        int[] without = {Clerk.NONE, 0, 0, 0, 0, 0, 0, 6, 20, 2, 2, 1, 12, 0};
        for (int kind = 0; kind < 14; kind++) {
            c.due("without " + kind, ask(x, "tells", "theft", kind, 0, 0), without[kind]);
            c.due("no law " + kind, ask(x, "law", "theft", kind, 0, 0), Clerk.NONE);
            c.due("no quarrel " + kind, ask(x, "quarrel", "theft", kind, 0, 0), 0);
        }
        for (String question : new String[] {"law", "tells", "quarrel"}) {
            c.due(question + " kind 14", ask(x, question, "a", 14, 0, 0), Clerk.RANGE);
            c.due(question + " kind -1", ask(x, question, "a", -1, 0, 0), Clerk.RANGE);
            c.due(question + " day 400", ask(x, question, "a", 0, 400, 0), Clerk.RANGE);
            c.due(question + " day -1", ask(x, question, "", 0, -1, 0), Clerk.RANGE);
            c.due(question + " shire 6", ask(x, question, "a", 7, 0, 6), Clerk.RANGE);
            c.due(question + " shire -1", ask(x, question, "a", 7, 0, -1), Clerk.RANGE);
            c.due(question + " no word", ask(x, question, "", 0, 0, 0), Clerk.STATE);
            c.due(question + " blanks", ask(x, question, " \n ", 3, 0, 0), Clerk.STATE);
            c.due(question + " two words", ask(x, question, "a b", 6, 0, 0), Clerk.STATE);
            c.due(question + " a number", ask(x, question, "12", 1, 0, 0), Clerk.STATE);
            c.due(question + " a sign", ask(x, question, "a;", 1, 0, 0), Clerk.STATE);
            c.due(question + " 13 letters", ask(x, question, "abcdefghijklm", 1, 0, 0), Clerk.STATE);
        }
    }

    private static void strikes() {
        AssizeRide x = Clerk.under("deed a = x; fine a 3; deed b = x; fine b 4; jury 2;");
        act(x, 1, 63, "fine a 5; fine b 6; jury 3;");
        act(x, 2, 1, "strike 1 a;");
        c.due("struck", ask(x, "tells", "a", 3, 2, 0), 3);
        c.due("not ahead", ask(x, "tells", "a", 3, 1, 0), 5);
        c.due("not elsewhere", ask(x, "tells", "a", 3, 2, 1), 5);
        c.due("not another deed", ask(x, "tells", "b", 3, 2, 0), 6);
        c.due("nor what has no deed", ask(x, "tells", "", 7, 2, 0), 3);
        act(x, 3, 63, "strike 1;");
        c.due("all of it", ask(x, "tells", "b", 3, 3, 0), 4);
        c.due("what has no deed too", ask(x, "tells", "", 7, 3, 0), 2);
        act(x, 4, 63, "strike 3; strike 2;");
        c.due("a struck strike strikes", ask(x, "law", "b", 3, 4, 0), 0);
        act(x, 5, 63, "strike 0 b;");
        c.due("the deed itself", ask(x, "tells", "b", 0, 5, 0), Clerk.NONE);
        c.due("the other stays", ask(x, "tells", "a", 0, 5, 0), 1);
    }

    private static void quarrels() {
        AssizeRide x = Clerk.under("jury 2; clergy a; void;");
        act(x, 0, 3, "jury 2; refuse a; stand;");
        act(x, 0, 1, "land 3;");
        act(x, 0, 4, "jury 5;");
        c.due("two of one day", ask(x, "quarrel", "", 7, 0, 0), 3);
        c.due("clergy and refuse", ask(x, "quarrel", "a", 4, 0, 1), 3);
        c.due("void and stand", ask(x, "quarrel", "", 13, 9, 1), 3);
        c.due("by place", ask(x, "quarrel", "", 7, 0, 2), 9);
        c.due("one alone", ask(x, "quarrel", "", 8, 0, 0), 0);
        c.due("of no deed", ask(x, "quarrel", "b", 4, 0, 0), 0);
        act(x, 1, 1, "jury 4;");
        c.due("a later law ends it", ask(x, "quarrel", "", 7, 1, 0), 0);
        c.due("but not ahead", ask(x, "quarrel", "", 7, 0, 0), 3);
        act(x, 2, 63, "strike 1; strike 4;");
        c.due("struck from it", ask(x, "quarrel", "", 7, 2, 0), 0);
        c.due("still elsewhere", ask(x, "quarrel", "", 7, 2, 2), 9);
        while (x.count(3) < 30) {
            act(x, 3, 63, "bill 1;");
        }
        c.due("up to the last", ask(x, "quarrel", "", 12, 3, 0), (1 << 30) - (1 << 6));
    }

    private static void weighing() {
        AssizeRide x = Clerk.under("deed theft = taken and value above 11 unless child or mad;");
        c.due("why ahead", x.why(0), Clerk.NONE);
        c.due("why lacks ahead", x.why(1), Clerk.NONE);
        weigh(x, "theft; taken; value=12;", 1, 3, Clerk.NONE);
        weigh(x, "theft; taken; value=11;", 0, 1, 1);
        weigh(x, "theft; taken=0; value=12;", 0, 2, 0);
        weigh(x, "theft;", 0, 0, 99);
        weigh(x, "theft; taken; value=12; mad;", 0, 11, 3);
        weigh(x, "theft; taken; value=12; mad; child;", 0, 15, 99);
        c.due("why what 2", x.why(2), Clerk.NONE);
        c.due("why what -1", x.why(-1), Clerk.NONE);
        c.due("no row", Clerk.say(x, "theft; taken").weigh(0, 0), Clerk.NONE);
        c.due("no deed's word", Clerk.say(x, "; taken;").weigh(0, 0), Clerk.NONE);
        c.due("no sign behind it", Clerk.say(x, "theft taken;").weigh(0, 0), Clerk.NONE);
        c.due("the word alone", Clerk.say(x, "theft").weigh(0, 0), Clerk.NONE);
        c.due("no such deed", Clerk.say(x, "arson; taken;").weigh(0, 0), Clerk.STATE);
        c.due("day 400", Clerk.say(x, "theft;").weigh(400, 0), Clerk.RANGE);
        c.due("day -1", Clerk.say(x, "theft;").weigh(-1, 0), Clerk.RANGE);
        c.due("shire 6", Clerk.say(x, "theft").weigh(0, 6), Clerk.RANGE);
        c.due("shire -1", Clerk.say(x, "theft").weigh(0, -1), Clerk.RANGE);
        c.due("why of the latest that told", x.why(0), 15);
    }

    private static void weigh(AssizeRide x, String text, int made, int met, int lack) {
        c.due("weigh " + text, Clerk.say(x, text).weigh(0, 0), made);
        c.due("met by " + text, x.why(0), met);
        c.due("lacks of " + text, x.why(1), lack);
    }

    private static void condition(String text, String facts, int made, int met, int lack) {
        AssizeRide x = Clerk.under("deed d = " + text + ";");
        weigh(x, "d;" + facts, made, met, lack);
    }

    private static void conditions() {
        condition("a or b and c", "a;", 1, 1, Clerk.NONE);
        condition("a or b and c", "b;", 0, 2, 0);
        condition("(a or b) and c", "a;", 0, 1, 2);
        condition("not a or b", "a;", 0, 1, 0);
        condition("not (a or b)", "a;", 0, 1, 0);
        condition("not (a or b)", "", 1, 0, Clerk.NONE);
        condition("not not a", "a;", 1, 1, Clerk.NONE);
        condition("not not not a", "a;", 0, 1, 0);
        condition("not (not (not a)) and b", "b;", 1, 2, Clerk.NONE);
        condition("not a and b", "a; b;", 0, 3, 0);
        condition("not a and b", "b;", 1, 2, Clerk.NONE);
        condition("a and b or c and d", "c; d;", 1, 12, Clerk.NONE);
        condition("a and (b or c) and d", "a; c; d;", 1, 13, Clerk.NONE);
        condition("a or b or c", "", 0, 0, 0);
        condition("a + b is 3 + c", "a=2; b=2;c;", 1, 1, Clerk.NONE);
        condition("a is 0", "", 1, 1, Clerk.NONE);
        condition("a is b", "a=7;", 0, 0, 0);
        condition("a below b", "b;", 1, 1, Clerk.NONE);
        condition("a below a", "a;", 0, 0, 0);
        condition("3 above a + a", "a;", 1, 1, Clerk.NONE);
        condition("3 above a + a", "a=2;", 0, 0, 0);
        condition("a + b", "b;", 1, 1, Clerk.NONE);
        condition("0", "", 0, 0, 0);
        condition("0 + 1", "", 1, 1, Clerk.NONE);
        condition("9999 + 9999 + 9999 + 9999 is a + a + a + a", "a=9999;", 1, 1, Clerk.NONE);
        condition("a unless not b", "a;b;", 1, 3, Clerk.NONE);
        condition("a or b unless c and d", "a;c;", 1, 5, Clerk.NONE);
        condition("a or b unless c and d", "a;c;d;", 0, 13, 2);
        condition("deed", "deed;", 1, 1, Clerk.NONE);
        String deepest = repeat("a or b and not (", 6) + "a or b and not c" + repeat(")", 6);
        condition(deepest, "b;", 1, 10922, Clerk.NONE);
        condition(deepest, "b; c;", 0, 10922 + (1 << 14), 0);
        condition("a" + repeat(" and a", 19), "a;", 1, (1 << 20) - 1, Clerk.NONE);
        condition("b" + repeat(" and a", 18) + " and c", "a;b;", 0, (1 << 19) - 1, 19);
    }

    private static void rowsOfFacts() {
        AssizeRide x = Clerk.under("deed d = t;");
        StringBuilder twenty = new StringBuilder("d;");
        for (int i = 0; i < 20; i++) {
            twenty.append((char) ('a' + i)).append(";");
        }
        weigh(x, twenty.toString(), 1, 1, Clerk.NONE);
        String[] wrong = {twenty + "u;", "d;a;a;", "d;a=;", "d;a=b;", "d;a 3;", "d;3;", "d;a=3", "d;;", "d;a=12345;",
            "d;a==3;", "d;abcdefghijklm;", "d;a=3;A;", "d;a+b;", "d;(a);"};
        for (String text : wrong) {
            c.due("no row " + text, Clerk.say(x, text).weigh(0, 0), Clerk.NONE);
        }
        weigh(x, "d ; t = 0009 ;\n or=3;", 1, 1, Clerk.NONE);
        weigh(x, "d;d;t=0;", 0, 0, 0);
    }
}
