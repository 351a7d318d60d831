import java.util.function.Supplier;

/** Boundary cases of the ORDER of a DAY: Terms VI, promises 52 to 58. */
public final class EdgeOrderTest extends Edges {
    public static void main(String[] args) {
        new EdgeOrderTest().test();
    }

    @Override
    void sentences() {
        in("VI");
        edge("of 1 .. 5 MATTERS, hours 1 .. 10 of a day", this::fiveOfTenHours);
        edge("each has told hours (1 .. 4)", this::toldHours);
        edge("two COURTS 0, 1", this::twoCourts);
        edge("each MATTER in a COURT from an hour on, in hours one behind the other within the day", this::withinTheDay);
        edge("none of its PEOPLE (parties, witnesses, jurors) is in two MATTERS in one hour, no COURT has two", this::inTwo);
        edge("BEST: most MATTERS LAID", this::mostLaid);
        edge("then the least row by number of MATTER of twice the hour and the COURT (one that isn't LAID: 99)", this::leastRow);
        edge("BOUND: how many could be, if the sums of hours alone were asked", this::sumsAlone);
        edge("those with the fewest hours, as long as they are together within 2 times the hours of the day", this::togetherWithin);
        in("52");
        edge("(1 .. 4; 1 at first): what it took", this::whatItTook);
        edge("RANGE", this::wrongHours);
        in("53");
        edge("The ORDER is begun anew, without MATTERS: 1", this::begunAnew);
        in("54");
        edge("how many it has; RANGE", this::wrongPuts);
        edge("STATE: it is in it", this::inItAlready);
        edge("FULL: the sixth", this::sixth);
        in("55");
        edge("BEST in a day of so many hours (1 .. 10)", this::hoursOfBest);
        edge("how many are LAID; RANGE", this::wrongBest);
        in("56");
        edge("of the i-th MATTER of the ORDER (by number)", this::byNumber);
        edge("99: it isn't LAID", this::notLaid);
        edge("NONE when there is none such (ahead of any best(), or behind a later order(), put())", this::noneLaid);
        in("57");
        edge("BOUND in a day of so many hours; RANGE", this::wrongBound);
        in("58");
        edge("48 and twice the hour and the COURT, or z (not LAID)", this::provenBytes);
        edge("NONE: it is not, or no such bytes", this::notProven);
        edge("no such bytes; RANGE", this::wrongProve);
    }

    /** So many CROWN MATTERS, each of another, put in the ORDER from the last on. */
    private static AssizeRide ordered(int... hours) {
        AssizeRide x = begun(hours.length);
        for (int m = hours.length - 1; m >= 0; m--) {
            x.hours(m, hours[m]);
            x.put(m);
        }
        return x;
    }

    private static AssizeRide begun(int matters) {
        AssizeRide x = Clerk.under("deed t = a; bill 0; jury 1; hundred 0; land 0;");
        for (int p = 0; p < 12; p++) {
            x.person(0, 0);
        }
        for (int m = 0; m < matters; m++) {
            say(x, "t").crown(m, 0, 0, 0);
        }
        return x;
    }

    private void best(AssizeRide x, int hours, int most, int... places) {
        due("best(" + hours + ")", x.best(hours), most);
        for (int i = 0; i < places.length; i++) {
            due("laid(" + i + ")", x.laid(i), places[i]);
        }
        due("laid no further", x.laid(places.length), NONE);
    }

    private static int prove(AssizeRide x, int hours, String row) {
        return say(x, row).prove(hours);
    }

    private void fiveOfTenHours() {
        best(ordered(1), 1, 1, 0);
        best(ordered(1), 10, 1, 0);
        best(ordered(1, 1, 1, 1, 1), 10, 5, 0, 1, 2, 3, 4);
        best(ordered(4, 4, 4, 4, 4), 10, 4, 0, 1, 8, 9, 99);
        best(ordered(4, 4, 3, 3, 3), 10, 5, 0, 1, 8, 9, 14);
        best(ordered(), 10, 0);
    }

    private void toldHours() {
        for (int hours = 1; hours <= 4; hours++) {
            best(ordered(hours), hours, 1, 0);
            if (hours > 1) {
                best(ordered(hours), hours - 1, 0, 99);
            }
        }
    }

    private void twoCourts() {
        best(ordered(1, 1), 1, 2, 0, 1);
        best(ordered(1, 1, 1), 1, 2, 0, 1, 99);
        due("court 0", prove(ordered(1), 1, "0"), 1);
        due("court 1", prove(ordered(1), 1, "1"), 1);
        due("no third", prove(ordered(1), 1, "2"), NONE);
    }

    private void withinTheDay() {
        for (int hours = 1; hours <= 4; hours++) {
            AssizeRide x = ordered(hours);
            due("to the last hour of ten", prove(x, 10, "" + (char) (48 + 2 * (10 - hours))), 1);
            due("in court 1", prove(x, 10, "" + (char) (49 + 2 * (10 - hours))), 1);
            due("an hour beyond", prove(x, 10, "" + (char) (50 + 2 * (10 - hours))), NONE);
        }
        due("as long as the day", prove(ordered(4), 4, "0"), 1);
        due("longer than the day", prove(ordered(4), 3, "0"), NONE);
    }

    private void inTwo() {
        AssizeRide x = ordered(2, 2);
        due("no court has two", prove(x, 4, "00"), NONE);
        due("an hour of two", prove(x, 4, "02"), NONE);
        due("one behind the other", prove(x, 4, "04"), 2);
        due("and ahead of it", prove(x, 4, "40"), 2);
        due("in two courts", prove(x, 4, "01"), 2);
        due("in two courts, an hour apart", prove(x, 4, "03"), 2);
        x.witness(0, 9);
        x.witness(1, 9);
        due("a witness of both", prove(x, 4, "01"), NONE);
        due("in one hour", prove(x, 4, "03"), NONE);
        due("one behind the other in two courts", prove(x, 4, "05"), 2);
        due("and ahead of it", prove(x, 4, "41"), 2);
        best(x, 4, 2, 0, 4);
        best(x, 3, 1, 0, 99);
        AssizeRide y = begun(0);
        say(y, "t").crown(1, 0, 0, 0);
        say(y, "t").plea(2, 1, 0, 0, 0, 5);
        say(y, "t").plea(3, 2, 0, 0, 0, 5);
        y.draw(2, 0);
        for (int m = 0; m < 3; m++) {
            y.put(m);
        }
        due("a juror", y.juror(2, 0), 0);
        due("the accused is sued", prove(y, 1, "01z"), NONE);
        due("who sues is sued", prove(y, 1, "z01"), NONE);
        due("nobody is in two", prove(y, 1, "0z1"), 2);
        y.witness(0, 0);
        due("a witness is a juror", prove(y, 1, "0z1"), NONE);
        y.witness(1, 0);
        due("of the other too", prove(y, 1, "z01"), NONE);
        y.challenge(2, 0);
        due("who was challenged isn't in it", prove(y, 1, "0z1"), 2);
    }

    private void mostLaid() {
        best(ordered(2, 1, 1), 1, 2, 99, 0, 1);
        best(ordered(4, 1, 1, 1, 1), 2, 4, 99, 0, 1, 2, 3);
        best(ordered(4, 1, 1, 1, 1), 4, 5, 0, 1, 3, 5, 7);
        best(ordered(2, 2, 1), 2, 2, 0, 1, 99);
        best(ordered(2, 1, 1, 1, 1), 2, 4, 99, 0, 1, 2, 3);
        best(ordered(3, 3, 3, 3, 3), 9, 5, 0, 1, 6, 7, 12);
        best(ordered(3, 3, 3, 3, 3), 8, 4, 0, 1, 6, 7, 99);
    }

    private void leastRow() {
        best(ordered(1, 1), 2, 2, 0, 1);
        best(ordered(1, 2, 1), 2, 3, 0, 1, 2);
        best(ordered(1, 1, 2), 2, 3, 0, 2, 1);
        best(ordered(2, 2, 2), 2, 2, 0, 1, 99);
        best(ordered(1, 3, 2), 3, 3, 0, 1, 2);
        best(ordered(2, 3, 3), 3, 2, 0, 1, 99);
    }

    private void sumsAlone() {
        AssizeRide x = ordered(2, 2);
        x.witness(0, 9);
        x.witness(1, 9);
        due("bound asks for no people", x.bound(2), 2);
        due("best does", x.best(2), 1);
        due("nor for hours one behind the other", ordered(3, 3).bound(3), 2);
        due("nor for courts", ordered(2, 2, 2).bound(3), 3);
        due("best does", ordered(2, 2, 2).best(3), 2);
        due("none", ordered().bound(10), 0);
        due("nor for a day's length", ordered(4).bound(2), 1);
    }

    private void togetherWithin() {
        due("2 in 2", ordered(1, 1).bound(1), 2);
        due("3 in 2", ordered(1, 1, 1).bound(1), 2);
        due("4 in 2", ordered(4).bound(1), 0);
        due("the fewest hours first", ordered(4, 1, 1).bound(1), 2);
        due("10 in 10", ordered(4, 3, 2, 1).bound(5), 4);
        due("10 in 8", ordered(4, 3, 2, 1).bound(4), 3);
        due("20 in 20", ordered(4, 4, 4, 4, 4).bound(10), 5);
        due("20 in 18", ordered(4, 4, 4, 4, 4).bound(9), 4);
    }

    private void whatItTook() {
        AssizeRide x = begun(1);
        due("at first", x.matter(0, 13), 1);
        due("1 at first", x.hours(0, 4), 1);
        due("then 4", x.hours(0, 1), 4);
        due("then 1", x.hours(0, 1), 1);
    }

    private void wrongHours() {
        within("hours", 1, 4, RANGE, n -> begun(1).hours(0, n));
        within("matter", 0, 1, RANGE, m -> begun(2).hours(m, 2));
        for (int n : new int[] {LEAST, -1, 0, 5, MOST}) {
            refused("hours " + n, () -> begun(1), x -> x.hours(0, n), RANGE);
        }
        due("ahead of all matters", begun(0).hours(0, 1), RANGE);
    }

    private void begunAnew() {
        AssizeRide x = ordered(1, 1, 1);
        due("of three", x.order(), 1);
        due("none in it", x.count(8), 0);
        due("again", x.order(), 1);
        due("put as the first", x.put(1), 1);
        due("of a new object", new AssizeRide().order(), 1);
        best(x, 1, 1, 0);
    }

    private static AssizeRide laidOut() {
        AssizeRide x = begun(7);
        for (int m = 0; m < 5; m++) {
            x.put(m);
        }
        x.best(2);
        return x;
    }

    private void wrongPuts() {
        for (int m : new int[] {LEAST, -1, 7, MOST}) {
            refused("put " + m, () -> {
                AssizeRide x = begun(7);
                x.put(6);
                x.best(1);
                return x;
            }, x -> x.put(m), RANGE);
        }
        refused("RANGE ahead of FULL", EdgeOrderTest::laidOut, x -> x.put(7), RANGE);
        AssizeRide y = begun(7);
        for (int m = 6; m > 1; m--) {
            due("put " + m, y.put(m), 7 - m);
        }
        due("ahead of all matters", begun(0).put(0), RANGE);
    }

    private void inItAlready() {
        for (int m = 0; m < 5; m++) {
            int one = m;
            refused("put " + m + " again", EdgeOrderTest::laidOut, x -> x.put(one), STATE);
        }
        AssizeRide y = laidOut();
        y.order();
        due("in a new order", y.put(4), 1);
    }

    private void sixth() {
        due("five", laidOut().count(8), 5);
        refused("the sixth", EdgeOrderTest::laidOut, x -> x.put(5), FULL);
        refused("the sixth, another", EdgeOrderTest::laidOut, x -> x.put(6), FULL);
    }

    private void hoursOfBest() {
        within("hours", 1, 10, RANGE, hours -> ordered(1, 1, 1).best(hours));
        due("a day of one hour", ordered(1, 1, 1).best(1), 2);
        due("a day of ten", ordered(4, 4, 4, 4).best(10), 4);
        due("a day of seven", ordered(4, 4, 4, 4).best(7), 2);
        due("a day of eight", ordered(4, 4, 4, 4).best(8), 4);
    }

    private void wrongBest() {
        for (int hours : new int[] {LEAST, -1, 0, 11, MOST}) {
            refused("best(" + hours + ")", EdgeOrderTest::laidOut, x -> x.best(hours), RANGE);
        }
        due("of nothing", begun(0).best(1), 0);
    }

    private void byNumber() {
        AssizeRide x = begun(7);
        x.hours(6, 2);
        x.put(6);
        x.put(0);
        x.put(3);
        best(x, 2, 3, 0, 2, 1);
    }

    private void notLaid() {
        best(ordered(2, 1), 1, 1, 99, 0);
        best(ordered(2), 1, 0, 99);
        best(ordered(1, 1, 1, 1, 1), 2, 4, 0, 1, 2, 3, 99);
    }

    private void noneLaid() {
        AssizeRide x = begun(3);
        x.put(0);
        due("ahead of any best", x.laid(0), NONE);
        x.best(11);
        due("behind a refused one", x.laid(0), NONE);
        x.best(1);
        due("behind best", x.laid(0), 0);
        x.put(1);
        due("behind a put", x.laid(0), NONE);
        x.best(1);
        x.order();
        due("behind an order", x.laid(0), NONE);
        x.best(1);
        due("best of nothing lays none", x.laid(0), NONE);
        within("i", 0, 4, NONE, i -> laidOut().laid(i));
    }

    private void wrongBound() {
        within("hours", 1, 10, RANGE, hours -> ordered(1, 1, 1).bound(hours));
        due("a day of one hour", ordered(1, 1, 1).bound(1), 2);
        due("a day of ten", ordered(4, 4, 4, 4, 4).bound(10), 5);
        AssizeRide x = laidOut();
        x.bound(1);
        due("it leaves what was laid", x.laid(4), 99);
        due("and the first", x.laid(0), 0);
    }

    private void provenBytes() {
        AssizeRide x = ordered(1);
        for (int b = 0; b < 256; b++) {
            boolean isPlace = b >= 48 && b < 48 + 20;
            due("byte " + b + " of a day of ten", prove(x, 10, "" + (char) b), isPlace ? 1 : b == 'z' ? 0 : NONE);
            x = ordered(1);
        }
        due("of nothing", prove(begun(0), 1, ""), 0);
        due("all five", prove(ordered(1, 1, 1, 1, 1), 10, "0123C"), 5);
        due("none of five", prove(ordered(1, 1, 1, 1, 1), 10, "zzzzz"), 0);
    }

    private void notProven() {
        Supplier<AssizeRide> made = () -> {
            AssizeRide x = ordered(2, 1, 1);
            x.best(2);
            return x;
        };
        for (String row : new String[] {"", "z", "zz", "zzzz", "zz ", "zzZ", "zz/", "00z", "2zz", "02z", "z4z"}) {
            refusedReader("prove of " + row, () -> say(made.get(), row), x -> x.prove(2), NONE);
        }
        due("right", prove(made.get(), 2, "013"), 3);
        due("right, one not laid", prove(made.get(), 2, "1z0"), 2);
        due("of nothing, a byte", prove(begun(0), 1, "z"), NONE);
    }

    private void wrongProve() {
        within("hours", 1, 10, RANGE, hours -> prove(ordered(1), hours, "0"));
        for (int hours : new int[] {LEAST, -1, 0, 11, MOST}) {
            refusedReader("prove(" + hours + ")", () -> say(laidOut(), "zzzzz"), x -> x.prove(hours), RANGE);
            due("ahead of NONE", prove(ordered(1), hours, "zz"), RANGE);
        }
    }
}
