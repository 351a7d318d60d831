import java.util.ArrayList;
import java.util.List;
import java.util.function.IntUnaryOperator;
import java.util.function.Supplier;
import java.util.function.ToIntFunction;

/** Sentences of the document that name a boundary case, each quoted as it stands and with a test of its own. */
abstract class Edges {
    static final int NONE = Clerk.NONE;
    static final int RANGE = Clerk.RANGE;
    static final int FULL = Clerk.FULL;
    static final int STATE = Clerk.STATE;
    static final int ABSENT = Clerk.ABSENT;
    static final int LEAST = Integer.MIN_VALUE;
    static final int MOST = Integer.MAX_VALUE;

    /** Where a sentence stands, "I" to "VIII" of the Terms or a promise's number, and the sentence. */
    final List<String[]> quotes = new ArrayList<>();
    private boolean isTesting = true;
    private String section = "";
    private String quote = "";
    private int asked = 0;
    private int wrong = 0;

    abstract void sentences();

    final void test() {
        sentences();
        System.out.println(quotes.size() + " sentences, " + asked + " answers, " + wrong + " not as due");
        if (wrong != 0 || asked == 0) {
            System.exit(1);
        }
    }

    /** The quotes alone, without their tests. */
    final List<String[]> collect() {
        isTesting = false;
        sentences();
        return quotes;
    }

    final void in(String section) {
        this.section = section;
    }

    final void edge(String quote, Runnable test) {
        this.quote = quote;
        quotes.add(new String[] {section, quote});
        if (isTesting) {
            int before = asked;
            test.run();
            due("its test asks something", asked > before ? 1 : 0, 1);
        }
    }

    final void due(String call, long got, long want) {
        asked++;
        if (got != want) {
            wrong++;
            System.out.println(section + " \"" + quote + "\": " + call + " answered " + got + ", due is " + want);
        }
    }

    static AssizeRide say(AssizeRide x, String text) {
        return Clerk.say(x, text);
    }

    static String repeat(String text, int times) {
        return text.repeat(times);
    }

    /** Numbers from least to most are taken (the two ends are asked), those beside them and far off are refused. */
    final void within(String name, int least, int most, int refusal, IntUnaryOperator call) {
        for (int n : new int[] {least, most}) {
            due(name + " " + n + " is refused", call.applyAsInt(n) == refusal ? 1 : 0, 0);
        }
        for (int n : new int[] {LEAST, least - 1, most + 1, MOST}) {
            due(name + " " + n, call.applyAsInt(n), refusal);
        }
    }

    /** A refused call changes nothing: one object has it, its twin goes without. */
    final void refused(String name, Supplier<AssizeRide> made, ToIntFunction<AssizeRide> call, int want) {
        AssizeRide x = made.get();
        AssizeRide twin = made.get();
        due(name, call.applyAsInt(x), want);
        compare(name, x, twin);
    }

    /** Likewise of a call that reads THE TAPE, which is empty then. */
    final void refusedReader(String name, Supplier<AssizeRide> made, ToIntFunction<AssizeRide> call, int want) {
        AssizeRide x = made.get();
        AssizeRide twin = made.get();
        due(name, call.applyAsInt(x), want);
        due(name + " empties the tape", x.count(7), 0);
        twin.end(0);
        compare(name, x, twin);
    }

    private void compare(String name, AssizeRide x, AssizeRide twin) {
        int[] got = look(x);
        int[] want = look(twin);
        due(name + ": how much there is to see behind it", got.length, want.length);
        for (int i = 0; i < got.length && i < want.length; i++) {
            if (got[i] != want[i]) {
                due(name + " changed what is seen " + i + "th", got[i], want[i]);
                return;
            }
        }
    }

    /** What an object tells without being changed, by some 250 calls. */
    private static int[] look(AssizeRide x) {
        List<Integer> seen = new ArrayList<>();
        for (int what = 0; what < 30; what++) {
            seen.add(x.count(what));
        }
        for (int what = 0; what < 2; what++) {
            seen.add(x.fault(what));
            seen.add(x.why(what));
        }
        int day = x.count(0);
        for (int m = 0; m < 3 && m < x.count(4); m++) {
            for (int what = 0; what < 15; what++) {
                seen.add(x.matter(m, what));
            }
            for (int i = 0; i < 4; i++) {
                seen.add(x.juror(m, i));
            }
            seen.add(x.bad(m));
            seen.add(x.check(m));
            seen.add(x.stateOn(m, 0, day));
            seen.add(x.stateOn(m, day, day));
        }
        lookAtPeople(x, seen, day);
        for (int i = 0; i < 5; i++) {
            seen.add(x.laid(i));
            seen.add(x.told(i, 0));
            seen.add(x.told(i, 2));
            for (int what = 0; what < 2; what++) {
                seen.add(x.left(i, what));
                seen.add(x.rode(i, what));
            }
            for (int what = 0; what < 4; what++) {
                seen.add(x.joined(i, what));
            }
        }
        int[] row = new int[seen.size()];
        for (int i = 0; i < row.length; i++) {
            row[i] = seen.get(i);
        }
        return row;
    }

    private static void lookAtPeople(AssizeRide x, List<Integer> seen, int day) {
        for (int p = 0; p < 5 && p < x.count(1); p++) {
            seen.add(x.landOn(p, 399, day));
            seen.add(x.deadOn(p, 399, day));
            seen.add(x.prisoner(p, 0));
            seen.add(x.prisoner(p, 1));
            seen.add(x.kinOn(0, p == 0 ? 1 : p, day));
        }
        for (int b = 0; b < 2; b++) {
            for (int what = 0; what < 6; what++) {
                seen.add(x.bonded(b, what));
            }
        }
        for (int s = 0; s < 6; s++) {
            seen.add(x.far(0, s));
        }
    }
}
