import java.util.Random;
import java.util.function.Supplier;

/** Promises 52 to 58: the ORDER of a DAY, the best one also against all rows tried out. */
public final class DayOrderTest {
    private static final Clerk c = new Clerk();

    public static void main(String[] args) {
        hoursTaken();
        putting();
        laying();
        peopleInTwo();
        bounds();
        proving();
        bestOfAllRows();
        c.close();
    }

    private static AssizeRide withMatters(int matters) {
        AssizeRide x = Clerk.under("deed t = a; bill 0; jury 1; hundred 0;");
        Clerk.settle(x, 20);
        for (int m = 0; m < matters; m++) {
            Clerk.say(x, "t").crown(m, 0, 0, 0);
        }
        return x;
    }

    private static void hoursTaken() {
        AssizeRide x = withMatters(1);
        c.due("at first", x.matter(0, 13), 1);
        c.due("hours", x.hours(0, 4), 1);
        c.due("hours again", x.hours(0, 1), 4);
        c.due("told", x.matter(0, 13), 1);
        c.due("hours 0", x.hours(0, 0), Clerk.RANGE);
        c.due("hours 5", x.hours(0, 5), Clerk.RANGE);
        c.due("of none", x.hours(1, 2), Clerk.RANGE);
    }

    private static void putting() {
        AssizeRide x = withMatters(7);
        c.due("put ahead of order()", x.put(6), 1);
        c.due("of none", x.put(7), Clerk.RANGE);
        c.due("of -1", x.put(-1), Clerk.RANGE);
        c.due("again", x.put(6), Clerk.STATE);
        for (int m = 5; m > 1; m--) {
            c.due("put " + m, x.put(m), 7 - m);
        }
        c.due("the sixth", x.put(0), Clerk.FULL);
        c.due("the sixth, who is in it", x.put(3), Clerk.STATE);
        c.due("in it", x.count(8), 5);
        c.due("order", x.order(), 1);
        c.due("anew", x.count(8), 0);
        c.due("put again", x.put(6), 1);
    }

    private static void laying() {
        AssizeRide x = withMatters(5);
        c.due("best of nothing", x.best(3), 0);
        c.due("laid of nothing", x.laid(0), Clerk.NONE);
        x.put(4);
        x.put(1);
        x.put(3);
        c.due("laid ahead of best", x.laid(0), Clerk.NONE);
        c.due("hours 0", x.best(0), Clerk.RANGE);
        c.due("hours 11", x.best(11), Clerk.RANGE);
        c.due("best", x.best(1), 2);
        laid(x, 0, 1, 99);
        c.due("laid 3", x.laid(3), Clerk.NONE);
        c.due("laid -1", x.laid(-1), Clerk.NONE);
        x.best(11);
        laid(x, 0, 1, 99);
        x.hours(1, 2);
        laid(x, 0, 1, 99);
        c.due("best without the long one", x.best(1), 2);
        laid(x, 99, 0, 1);
        c.due("best of two hours", x.best(2), 3);
        laid(x, 0, 1, 3);
        x.put(4);
        x.put(9);
        laid(x, 0, 1, 3);
        x.put(0);
        c.due("laid behind put", x.laid(0), Clerk.NONE);
        c.due("best of four", x.best(2), 3);
        laid(x, 0, 1, 2, 99);
        c.due("best of ten hours", x.best(10), 4);
        laid(x, 0, 1, 2, 4);
        x.order();
        c.due("laid behind order", x.laid(0), Clerk.NONE);
        for (int m = 0; m < 5; m++) {
            x.hours(m, 2);
            x.put(m);
        }
        c.due("two in each court", x.best(4), 4);
        laid(x, 0, 1, 4, 5, 99);
        c.due("two in each court, hours to spare", x.best(5), 4);
        c.due("three in one of them", x.best(6), 5);
        laid(x, 0, 1, 4, 5, 8);
    }

    private static void laid(AssizeRide x, int... places) {
        for (int i = 0; i < places.length; i++) {
            c.due("laid " + i, x.laid(i), places[i]);
        }
    }

    private static void peopleInTwo() {
        AssizeRide x = withMatters(3);
        for (int m = 0; m < 3; m++) {
            x.put(m);
        }
        x.best(2);
        laid(x, 0, 1, 2);
        x.witness(0, 9);
        x.witness(1, 9);
        x.best(2);
        laid(x, 0, 2, 1);
        x.witness(2, 0);
        c.due("an accused is a witness", x.best(2), 3);
        laid(x, 0, 2, 3);
        c.due("two in one hour", x.best(1), 2);
        laid(x, 99, 0, 1);
        x.witness(1, 11);
        x.witness(2, 11);
        c.due("one in one hour", x.best(1), 1);
        laid(x, 0, 99, 99);
        AssizeRide y = withMatters(0);
        y.put(Clerk.say(y, "t").plea(5, 6, 0, 0, 0, 1));
        y.put(Clerk.say(y, "t").plea(7, 5, 0, 0, 0, 1));
        int m = Clerk.indict(y, "t", "w", "a;");
        y.put(m);
        y.draw(m, 6);
        c.due("a juror sues", y.juror(m, 0), 7);
        c.due("who sues here is sued there", y.best(1), 2);
        laid(y, 0, 99, 1);
        y.best(3);
        laid(y, 0, 2, 1);
        jurorsInTwo();
    }

    private static void jurorsInTwo() {
        AssizeRide x = Clerk.under("deed t = a; bill 0; jury 2; hundred 0;");
        Clerk.settle(x, 6);
        int first = Clerk.say(x, "t").plea(4, 5, 0, 0, 0, 1);
        int second = Clerk.indict(x, "t", "w", "a;");
        x.put(second);
        x.put(first);
        x.draw(second, 0);
        c.due("nobody is in two", x.best(1), 2);
        x.draw(second, 3);
        c.due("the second juror is sued", x.juror(second, 1), 5);
        c.due("a party here is a juror there", x.best(1), 1);
        x.challenge(second, 5);
        x.draw(second, 2);
        c.due("the second juror sues", x.juror(second, 1), 4);
        c.due("who sues here is a juror there", x.best(1), 1);
        x.challenge(second, 4);
        x.draw(first, 1);
        c.due("a juror of both", x.best(1), 1);
        c.due("proven likewise", prove(x, 1, "01"), Clerk.NONE);
        c.due("one behind the other", prove(x, 2, "03"), 2);
    }

    private static void bounds() {
        AssizeRide x = withMatters(5);
        c.due("of nothing", x.bound(1), 0);
        int[] hours = {4, 1, 3, 2, 4};
        for (int m = 0; m < 5; m++) {
            x.hours(m, hours[m]);
            x.put(m);
            x.witness(m, 10);
        }
        int[] want = {1, 2, 3, 3, 4, 4, 5, 5, 5, 5};
        for (int n = 1; n <= 10; n++) {
            c.due("bound " + n, x.bound(n), want[n - 1]);
        }
        c.due("hours 0", x.bound(0), Clerk.RANGE);
        c.due("hours 11", x.bound(11), Clerk.RANGE);
    }

    private static int prove(AssizeRide x, int hours, String row) {
        return Clerk.say(x, row).prove(hours);
    }

    private static void proving() {
        AssizeRide x = withMatters(4);
        c.due("of nothing", prove(x, 1, ""), 0);
        c.due("of nothing, a byte", prove(x, 1, "z"), Clerk.NONE);
        x.put(3);
        x.put(0);
        x.put(2);
        x.hours(0, 2);
        x.witness(2, 9);
        x.witness(3, 9);
        c.due("all", prove(x, 3, "013"), 3);
        c.due("none", prove(x, 3, "zzz"), 0);
        c.due("one court has two", prove(x, 3, "02z"), Clerk.NONE);
        c.due("one behind the other", prove(x, 3, "04z"), 2);
        c.due("one is in two", prove(x, 3, "z01"), Clerk.NONE);
        c.due("one in two, one behind the other", prove(x, 3, "z03"), 2);
        c.due("within the day", prove(x, 3, "2zz"), 1);
        c.due("beyond the day", prove(x, 3, "4zz"), Clerk.NONE);
        c.due("far beyond the day", prove(x, 3, "z6z"), Clerk.NONE);
        c.due("the last place of a day", prove(x, 10, "zz" + (char) (48 + 19)), 1);
        c.due("no such place", prove(x, 10, "zz" + (char) (48 + 20)), Clerk.NONE);
        c.due("a byte below", prove(x, 3, "zz/"), Clerk.NONE);
        c.due("byte 147 isn't 99", prove(x, 3, "zz" + (char) 147), Clerk.NONE);
        c.due("a blank", prove(x, 3, "zz "), Clerk.NONE);
        c.due("too few", prove(x, 3, "zz"), Clerk.NONE);
        c.due("too many", prove(x, 3, "zzzz"), Clerk.NONE);
        c.due("hours 0", prove(x, 0, "zzz"), Clerk.RANGE);
        c.due("hours 11", prove(x, 11, "zzz"), Clerk.RANGE);
        x.best(3);
        prove(x, 3, "zzz");
        laid(x, 0, 1, 3);
    }

    /** prove() tells which rows are right; of all rows of a small day the best one is asked for. */
    private static void bestOfAllRows() {
        Random random = new Random(7);
        for (int round = 0; round < 120; round++) {
            int matters = round % 2 == 0 ? 4 : 5;
            int hours = 1 + random.nextInt(matters == 4 ? 4 : 3);
            int mostHours = round % 3 == 0 ? 4 : 2;
            long seed = random.nextLong();
            AssizeRide x = someDay(seed, matters, mostHours);
            int[] best = new int[matters];
            int most = bestRow(() -> someDay(seed, matters, mostHours), hours, best);
            c.due("most of round " + round, x.best(hours), most);
            laid(x, best);
            c.due("bound of round " + round, x.bound(hours) >= x.best(hours) ? 1 : 0, 1);
        }
    }

    private static AssizeRide someDay(long seed, int matters, int mostHours) {
        Random random = new Random(seed);
        AssizeRide x = withMatters(matters);
        for (int m = 0; m < matters; m++) {
            x.hours(m, 1 + random.nextInt(mostHours));
            x.put(m);
        }
        for (int i = random.nextInt(6); i > 0; i--) {
            x.witness(random.nextInt(matters), 10 + random.nextInt(3));
        }
        return x;
    }

    /** Leaves the least row of those that lay the most in best: how many these are. */
    private static int bestRow(Supplier<AssizeRide> made, int hours, int[] best) {
        int places = 2 * hours + 1;
        int rows = (int) Math.pow(places, best.length);
        int most = -1;
        AssizeRide x = made.get();
        for (int row = 0; row < rows; row++) {
            // Four calls a row: a new object stays within its 512.
            x = row % 90 == 89 ? made.get() : x;
            int[] at = new int[best.length];
            StringBuilder text = new StringBuilder();
            for (int i = best.length - 1, rest = row; i >= 0; i--, rest /= places) {
                at[i] = rest % places == 2 * hours ? 99 : rest % places;
                text.insert(0, at[i] == 99 ? 'z' : (char) (48 + at[i]));
            }
            int laid = prove(x, hours, text.toString());
            if (laid > most) {
                System.arraycopy(at, 0, best, 0, at.length);
                most = laid;
            }
        }
        return most;
    }
}
