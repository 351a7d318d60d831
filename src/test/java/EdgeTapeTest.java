import java.util.function.ToIntFunction;

/** Boundary cases of THE TAPE and its TOKENS: Terms II, promises 2 and 3. */
public final class EdgeTapeTest extends Edges {
    private static final String LAW = "deed t = a; jury 1; hundred 0; bill 0; land 0;";
    private static final int BLANKS = 0x20202020;

    public static void main(String[] args) {
        new EdgeTapeTest().test();
    }

    @Override
    void sentences() {
        in("II");
        edge("THE TAPE has at most 1200 bytes", this::longestText);
        edge("each call that reads it empties it, whatever it tells", this::readersEmptyIt);
        edge("each call that reads it", this::othersLeaveIt);
        edge("TOKENS with any blanks (32, 10) between", this::blanks);
        edge("WORDS (small letters, as many as there are, 12 at most)", this::wordsOfTwelve);
        edge("N (digits, as many as there are, 4 at most)", this::numbersOfFour);
        edge("; = ( ) +.", this::everyByte);
        in("2");
        edge("Twenty bytes come behind THE TAPE, the highest of each int first", this::bytesInOrder);
        edge("how many it has", this::howManyItHas);
        edge("FULL when there would be more than 1200", this::fedBeyond);
        in("3");
        edge("THE TAPE has its first n bytes alone: n", this::firstBytes);
        edge("NONE when it has not so many, or n is below 0", this::endBeyond);
    }

    private static int feed(AssizeRide x) {
        return x.feed(BLANKS, BLANKS, BLANKS, BLANKS, BLANKS);
    }

    private void longestText() {
        AssizeRide x = new AssizeRide();
        due("act of 1200 bytes", say(x, "jury 3" + repeat(" ", 1193) + ";").act(0, 1), 0);
        due("its last byte was read", x.tells(7, 0, 0), 3);
        due("act of 1200 bytes without an end", say(x, "jury 3" + repeat(" ", 1194)).act(0, 1), NONE);
        due("which it lacks behind all of them", x.fault(1), 1200);
        due("a fault in the last byte", say(x, repeat(" ", 1199) + "?").act(0, 1), NONE);
        due("its place", x.fault(1), 1199);
    }

    private void reads(AssizeRide x, String name, String text, ToIntFunction<AssizeRide> call, int want) {
        due(name, call.applyAsInt(say(x, text)), want);
        due(name + " empties the tape", x.count(7), 0);
    }

    private static AssizeRide court() {
        AssizeRide x = Clerk.under(LAW);
        Clerk.settle(x, 3);
        say(x, "t").crown(0, 0, 0, 0);
        return x;
    }

    private void readersEmptyIt() {
        lawReaders();
        matterReaders();
        AssizeRide x = court();
        reads(x, "settle, no word", "t t", y -> y.settle(true), NONE);
        for (int i = 0; i < 40; i++) {
            reads(x, "settle " + i, "t", y -> y.settle(true), 0);
        }
        reads(x, "settle the 41st", "t", y -> y.settle(true), FULL);
        x.put(0);
        reads(x, "prove, hours 0", "0", y -> y.prove(0), RANGE);
        reads(x, "prove, not right", "2", y -> y.prove(1), NONE);
        reads(x, "prove, no such bytes", "00", y -> y.prove(1), NONE);
        reads(x, "prove", "0", y -> y.prove(1), 1);
        reads(x, "roll 3", "123", y -> y.roll(3), RANGE);
        reads(x, "roll of two figures", "12", y -> y.roll(0), NONE);
        reads(x, "roll", "123", y -> y.roll(0), 1);
    }

    private void lawReaders() {
        AssizeRide x = court();
        reads(x, "act on day -1", "jury 3;", y -> y.act(-1, 1), RANGE);
        reads(x, "act with a fault", "jury;", y -> y.act(0, 1), NONE);
        for (int a = 1; a < 30; a++) {
            int number = a;
            reads(x, "act " + a, "fine t 3;", y -> y.act(0, 1), number);
        }
        reads(x, "act the 31st", "jury 3;", y -> y.act(0, 1), FULL);
        for (int kind : new int[] {3, 7}) {
            reads(x, "law on day 400", "t", y -> y.law(kind, 400, 0), RANGE);
            reads(x, "law", "t", y -> y.law(kind, 0, 0), kind == 3 ? 29 : 0);
            reads(x, "law elsewhere", "t", y -> y.law(kind, 0, 1), kind == 3 ? NONE : 0);
            reads(x, "tells in shire 6", "t", y -> y.tells(kind, 0, 6), RANGE);
            reads(x, "tells", "t", y -> y.tells(kind, 0, 0), kind == 3 ? 3 : 1);
            reads(x, "quarrel on day -1", "t", y -> y.quarrel(kind, -1, 0), RANGE);
            reads(x, "quarrel", "t", y -> y.quarrel(kind, 0, 0), kind == 3 ? (1 << 30) - 2 : 0);
        }
        reads(x, "law of kind 14", "t", y -> y.law(14, 0, 0), RANGE);
        reads(x, "law without a word", "3", y -> y.law(3, 0, 0), STATE);
        reads(x, "tells without a word", "3", y -> y.tells(3, 0, 0), STATE);
        reads(x, "quarrel without a word", "3", y -> y.quarrel(3, 0, 0), STATE);
        reads(x, "weigh in shire 6", "t; a;", y -> y.weigh(0, 6), RANGE);
        reads(x, "weigh of no row", "t; a", y -> y.weigh(0, 0), NONE);
        reads(x, "weigh of no deed", "u; a;", y -> y.weigh(0, 0), STATE);
        reads(x, "weigh, not made", "t;", y -> y.weigh(0, 0), 0);
        reads(x, "weigh, made", "t; a;", y -> y.weigh(0, 0), 1);
    }

    private void matterReaders() {
        AssizeRide x = court();
        reads(x, "words of none", "w", y -> y.words(1), RANGE);
        reads(x, "words, none", "3", y -> y.words(0), NONE);
        reads(x, "words", "w", y -> y.words(0), 1);
        reads(x, "allege of none", "a;", y -> y.allege(1), RANGE);
        reads(x, "allege, no row", "a", y -> y.allege(0), NONE);
        reads(x, "allege", "a;", y -> y.allege(0), 1);
        reads(x, "hear of none", "a;", y -> y.hear(1), RANGE);
        reads(x, "hear of a begun one", "a;", y -> y.hear(0), STATE);
        x.bill(0, 0);
        x.draw(0, 0);
        reads(x, "words of a true bill", "w", y -> y.words(0), STATE);
        reads(x, "allege of a true bill", "a;", y -> y.allege(0), STATE);
        reads(x, "hear, no row", "a", y -> y.hear(0), NONE);
        reads(x, "hear", "a;", y -> y.hear(0), 3);
        reads(x, "crown of nobody", "t", y -> y.crown(3, 0, 0, 0), RANGE);
        reads(x, "crown without a word", "t;", y -> y.crown(0, 0, 0, 0), NONE);
        reads(x, "plea of nobody", "t", y -> y.plea(0, 3, 0, 0, 0, 1), RANGE);
        reads(x, "plea without a word", "", y -> y.plea(0, 1, 0, 0, 0, 1), NONE);
        reads(x, "crown", "t", y -> y.crown(0, 0, 0, 0), 1);
        reads(x, "plea", "t", y -> y.plea(0, 1, 0, 0, 0, 1), 2);
        for (int m = 3; m < 100; m++) {
            x.feed(0x74202020, BLANKS, BLANKS, BLANKS, BLANKS);
            x.crown(0, 0, 0, 0);
        }
        reads(x, "crown the 101st", "t", y -> y.crown(0, 0, 0, 0), FULL);
        reads(x, "plea the 101st", "t", y -> y.plea(0, 1, 0, 0, 0, 1), FULL);
    }

    private void leaves(String name, ToIntFunction<AssizeRide> call) {
        AssizeRide x = say(court(), "seven b");
        call.applyAsInt(x);
        due(name + " leaves the tape", x.count(7), 7);
        due(name + " leaves its bytes", x.words(0), 2);
    }

    private void othersLeaveIt() {
        leaves("road", x -> x.road(0, 1, 1));
        leaves("pass", x -> x.pass(1));
        leaves("person", x -> x.person(0, 0));
        leaves("land", x -> x.land(0, 1, 0));
        leaves("dead", x -> x.dead(0, 0));
        leaves("kin", x -> x.kin(0, 1, 1));
        leaves("landOn", x -> x.landOn(0, 0, 0));
        leaves("deadOn", x -> x.deadOn(0, 0, 0));
        leaves("kinOn", x -> x.kinOn(0, 1, 0));
        leaves("fault", x -> x.fault(0));
        leaves("told", x -> x.told(0, 0));
        leaves("why", x -> x.why(0));
        leaves("bad", x -> x.bad(0));
        leaves("mend", x -> x.mend(0));
        leaves("bill", x -> x.bill(0, 24));
        leaves("matter", x -> x.matter(0, 0));
        leaves("witness", x -> x.witness(0, 1));
        leaves("may", x -> x.may(0, 1));
        leaves("list", x -> x.list(0));
        leaves("draw", x -> x.draw(0, 0));
        leaves("challenge", x -> x.challenge(0, 1));
        leaves("full", x -> x.full(0));
        leaves("lacks", x -> x.lacks(0));
        leaves("juror", x -> x.juror(0, 0));
        leaves("judge", x -> x.judge(0));
        leaves("benefit", x -> x.benefit(0));
        leaves("keep", x -> x.keep(0));
        leaves("pardon", x -> x.pardon(0, 0, 0));
        leaves("undo", x -> x.undo(0));
        leaves("commit", x -> x.commit(0, 0));
        leaves("bail", x -> x.bail(0));
        leaves("deliver", x -> x.deliver(0));
        leaves("left", x -> x.left(0, 0));
        leaves("prisoner", x -> x.prisoner(0, 0));
        leaves("bond", x -> x.bond(0, 0, 0, 0, 1));
        leaves("seen", x -> x.seen(0, 0));
        leaves("bonded", x -> x.bonded(0, 0));
        leaves("hours", x -> x.hours(0, 1));
        leaves("order", x -> x.order());
        leaves("put", x -> x.put(0));
        leaves("best", x -> x.best(1));
        leaves("laid", x -> x.laid(0));
        leaves("bound", x -> x.bound(1));
        leaves("far", x -> x.far(0, 1));
        leaves("ride", x -> x.ride(0, 0, 1, 1));
        leaves("late", x -> x.late(1, 1));
        leaves("rode", x -> x.rode(0, 0));
        leaves("join", x -> x.join());
        leaves("joined", x -> x.joined(0, 0));
        leaves("putRight", x -> x.putRight(0, 0, 0));
        leaves("stateOn", x -> x.stateOn(0, 0, 0));
        leaves("check", x -> x.check(0));
        leaves("count", x -> x.count(0));
    }

    /** An ACT of this text: 0 without a FAULT, else 1000 times its KIND and its PLACE. */
    private static int faultOf(String text) {
        AssizeRide x = new AssizeRide();
        return say(x, text).act(0, 63) == 0 ? 0 : 1000 * x.fault(0) + x.fault(1);
    }

    private void blanks() {
        due("blanks everywhere", faultOf("\n jury \n\n 3 \n ; \n"), 0);
        due("blanks alone", faultOf(" \n "), 0);
        due("no blanks at all", faultOf("fine x3;deed x=(a+1is 2)or 3above b;"), 0);
        due("a blank within a word", faultOf("ju ry 3;"), 1000);
        due("a blank within a number", faultOf("land 12 34;"), 1008);
        due("a line's end within a number", faultOf("land 12\n34;"), 1008);
        for (int b : new int[] {0, 9, 11, 13, 31, 33, 127, 128, 160, 255}) {
            due("byte " + b + " is no blank", faultOf("jury" + (char) b + "3;"), 1004);
        }
    }

    private void wordsOfTwelve() {
        due("one letter", faultOf("death a;"), 0);
        due("twelve letters", faultOf("death abcdefghijkz;"), 0);
        due("thirteen letters", faultOf("death abcdefghijklz;"), 1006);
        due("24 letters are not two words", faultOf("words t" + repeat("a", 24) + ";"), 1006);
        due("as many as there are", faultOf("voida;"), 1000);
        due("a word ends at a figure", faultOf("fine x3;"), 0);
        AssizeRide x = Clerk.under("fine abcdefghijkl 1; fine abcdefghijkm 2; fine zbcdefghijkl 3; fine a 4; fine aa 5;");
        String[] deeds = {"abcdefghijkl", "abcdefghijkm", "zbcdefghijkl", "a", "aa"};
        for (int i = 0; i < deeds.length; i++) {
            due("fine of " + deeds[i], say(x, deeds[i]).tells(3, 0, 0), i + 1);
        }
        due("fine of eleven letters", say(x, "abcdefghijk").tells(3, 0, 0), 0);
        due("a word of thirteen letters is none", say(x, "abcdefghijklm").tells(3, 0, 0), STATE);
        for (String word : new String[] {"a", "b", "y", "z", "abc", "zzzzzzzzzzzz"}) {
            unlikeWords(word);
        }
    }

    private void numbersOfFour() {
        due("one figure", faultOf("land 0;"), 0);
        due("four figures", faultOf("land 9999;"), 0);
        due("five figures", faultOf("land 10000;"), 1005);
        due("five figures, ever so small", faultOf("land 00000;"), 1005);
        due("eight figures are not two numbers", faultOf("fine t 00010001;"), 1007);
        due("naughts ahead", Clerk.under("land 0012;").tells(8, 0, 0), 12);
        due("as many as there are", Clerk.under("land 120;").tells(8, 0, 0), 120);
        due("a number ends at a letter", faultOf("deed t = 1or 2;"), 0);
    }

    /** Behind "void" one byte, of which each is a letter, a figure, a blank, a sign or none. */
    private void everyByte() {
        for (int b = 0; b < 256; b++) {
            int want = 1004;
            if (b >= 'a' && b <= 'z') {
                want = 1000;
            } else if (b == ';') {
                want = 1005;
            } else if (b == 32 || b == 10) {
                want = 0;
            }
            due("void and byte " + b, faultOf("void" + (char) b + ";"), want);
        }
        due("each sign is a token", faultOf("deed t=(a+1);"), 0);
        for (int b = 0; b < 256; b++) {
            boolean isFine = b >= '0' && b <= '9' || b == 32 || b == 10;
            due("land 3 and byte " + b, faultOf("land 3" + (char) b + ";"), b == ';' ? 1007 : isFine ? 0 : 1006);
        }
        for (int b : new int[] {'/', ':', '`', '{', '@', '[', 'A', 'Z'}) {
            due("a fact's number and byte " + b, say(Clerk.under("deed t=1;"), "t;a=3" + (char) b + ";").weigh(0, 0), NONE);
            due("a fact's word and byte " + b, say(Clerk.under("deed t=1;"), "t;a" + (char) b + ";").weigh(0, 0), NONE);
        }
    }

    /** A row of FACTS has each W once: one that is like no other is taken beside nineteen of two letters. */
    private void unlikeWords(String word) {
        AssizeRide x = Clerk.under("deed t=" + word + ";");
        for (int first = 0; first < 26 * 26; first += 19) {
            StringBuilder row = new StringBuilder("t;" + word + ";");
            for (int i = first; i < first + 19 && i < 26 * 26; i++) {
                row.append((char) ('a' + i / 26)).append((char) ('a' + i % 26)).append(';');
            }
            feedWhole(x, row.toString());
            due(word + " beside " + row, x.weigh(0, 0), 1);
        }
    }

    /** Blanks fill the last twenty bytes, so that no end() is called. */
    private static void feedWhole(AssizeRide x, String text) {
        for (int i = 0; i < text.length(); i += 20) {
            int[] fives = new int[5];
            for (int j = 0; j < 20; j++) {
                fives[j / 4] = fives[j / 4] << 8 | (i + j < text.length() ? text.charAt(i + j) : ' ');
            }
            x.feed(fives[0], fives[1], fives[2], fives[3], fives[4]);
        }
    }

    private void bytesInOrder() {
        AssizeRide x = new AssizeRide();
        due("jury 1;land 7654;voi", x.feed(0x6A757279, 0x20313B6C, 0x616E6420, 0x37363534, 0x3B766F69), 20);
        due("d;", x.feed(0x643B2020, BLANKS, BLANKS, BLANKS, BLANKS), 40);
        due("act", x.act(0, 1), 0);
        due("jury", x.tells(7, 0, 0), 1);
        due("land", x.tells(8, 0, 0), 7654);
        due("void", x.tells(13, 0, 0), 1);
        due("bytes of 255", x.feed(-1, -1, -1, -1, -1), 20);
        due("are no token", x.act(0, 1), NONE);
        due("from the first on", x.fault(1), 0);
        due("the highest bit of all", x.feed(LEAST, 0, 0, 0, 0), 20);
        due("is a byte too", x.act(0, 1), NONE);
    }

    private void howManyItHas() {
        AssizeRide x = new AssizeRide();
        due("nothing at first", x.count(7), 0);
        due("feed", feed(x), 20);
        due("feed again", feed(x), 40);
        x.end(3);
        due("feed behind three", feed(x), 23);
        x.roll(0);
        due("feed behind none", feed(x), 20);
    }

    private void fedBeyond() {
        for (int bytes : new int[] {1181, 1190, 1199, 1200}) {
            AssizeRide x = fed(bytes);
            due("feed behind " + bytes, feed(x), FULL);
            due("nothing came", x.count(7), bytes);
        }
        AssizeRide y = fed(1180);
        due("feed behind 1180", feed(y), 1200);
        due("feed behind 1200", feed(y), FULL);
        due("what was there stays", y.act(0, 1), 0);
        due("feed behind an emptied tape", feed(y), 20);
    }

    private static AssizeRide fed(int bytes) {
        AssizeRide x = new AssizeRide();
        for (int i = 0; i < 60; i++) {
            feed(x);
        }
        x.end(bytes);
        return x;
    }

    private void firstBytes() {
        AssizeRide x = new AssizeRide();
        due("end(0) of nothing", x.end(0), 0);
        say(x, "jury 3; void; land 7");
        due("end(20) of 20", x.end(20), 20);
        due("they are all there", x.count(7), 20);
        due("end(7)", x.end(7), 7);
        due("seven are there", x.count(7), 7);
        due("act of seven", x.act(0, 1), 0);
        due("which have one clause", x.told(0, 2), 1);
        say(x, "jury 3;").end(0);
        due("end(0) leaves none", x.count(7), 0);
        due("1200 of 1200", fed(1200).end(1200), 1200);
    }

    private void endBeyond() {
        due("end(1) of nothing", new AssizeRide().end(1), NONE);
        for (int n : new int[] {8, -1, LEAST, MOST, 1200}) {
            AssizeRide x = say(new AssizeRide(), "jury 3;");
            due("end(" + n + ") of seven", x.end(n), NONE);
            due("which stay", x.count(7), 7);
            due("and are read", x.act(0, 1), 0);
        }
        due("end(1201) of 1200", fed(1200).end(1201), NONE);
    }
}
