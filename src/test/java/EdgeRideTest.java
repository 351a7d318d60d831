import java.util.function.Supplier;

/** Boundary cases of ways and rides: Terms VI, promises 59 to 62. */
public final class EdgeRideTest extends Edges {
    public static void main(String[] args) {
        new EdgeRideTest().test();
    }

    @Override
    void sentences() {
        in("VI");
        edge("through a set of SHIRES (itself among them or not), each once, by shortest ROADS", this::itselfOrNot);
        edge("in each told days are stayed (1 .. 5 all alike), at the first of which its GAOL is DELIVERED", this::stays);
        edge("over all PRISONERS of these GAOLS the days from the ride's first day to that", this::waits);
        edge("BEST: the least sum of WAITS; then the soonest end; then the least row of SHIRES", this::bestRide);
        edge("after the first k SHIRES so many days are lost", this::daysLost);
        edge("the rest as BEST from there, on the day on which the k-th was left and these", this::restAsBest);
        in("59");
        edge("by the shortest ROADS (0 to itself); NONE", this::shortest);
        edge("NONE; RANGE", this::wrongFar);
        in("60");
        edge("on a day (0 .. 399), through a set (bits, one or more), so many days stayed in each (1 .. 5)", this::rideBounds);
        edge("NONE: there is no way", this::noWay);
        edge("there is no way; RANGE", this::wrongRides);
        in("61");
        edge("The latest ride that was told (or made LATE) is LATE", this::latestRide);
        edge("behind its first k SHIRES (1 or more), by days (1 .. 50)", this::lateBounds);
        edge("RANGE: no such k, days", this::wrongLate);
        edge("STATE: none was told", this::noneTold);
        in("62");
        edge("NONE when there is none such", this::rodeNone);
    }

    /** ROADS of 2 days from SHIRE 0 to each other one. */
    private static AssizeRide star() {
        AssizeRide x = new AssizeRide();
        Clerk.settle(x, 6);
        for (int s = 1; s < 6; s++) {
            x.road(0, s, 2);
        }
        return x;
    }

    private void rode(AssizeRide x, int... shiresAndDays) {
        for (int i = 0; i < shiresAndDays.length; i++) {
            due("rode(" + i / 2 + ", " + i % 2 + ")", x.rode(i / 2, i % 2), shiresAndDays[i]);
        }
        due("rode no further", x.rode(shiresAndDays.length / 2, 0), NONE);
    }

    private void itselfOrNot() {
        AssizeRide x = star();
        due("itself alone", x.ride(3, 10, 8, 1), 0);
        rode(x, 3, 10);
        due("another alone", x.ride(3, 10, 16, 1), 0);
        rode(x, 4, 14);
        due("both", x.ride(3, 10, 24, 1), 0);
        rode(x, 3, 10, 4, 15);
        due("all six", x.ride(0, 0, 63, 1), 0);
        rode(x, 0, 0, 1, 3, 2, 8, 3, 13, 4, 18, 5, 23);
    }

    private void stays() {
        for (int stay : new int[] {1, 5}) {
            AssizeRide x = star();
            x.commit(0, 1);
            due("stay " + stay, x.ride(0, 10, 3, stay), 2);
            rode(x, 1, 12, 0, 14 + stay);
            x.commit(1, 0);
            x.commit(2, 0);
            due("stay " + stay + " in the first", x.ride(0, 10, 3, stay), 2 + stay);
            rode(x, 0, 10, 1, 12 + stay);
        }
    }

    private void waits() {
        AssizeRide x = star();
        due("nobody waits", x.ride(0, 10, 2, 1), 0);
        x.commit(0, 1);
        x.commit(1, 1);
        x.commit(2, 5);
        due("two wait two days", x.ride(0, 10, 2, 1), 4);
        due("those of another gaol don't count", x.ride(0, 10, 4, 1), 0);
        due("of three gaols", x.ride(0, 10, 35, 1), 4 + 7);
        due("by any day", x.ride(0, 399, 35, 1), 4 + 7);
        x.pass(9);
        due("not by the days before", x.ride(1, 399, 2, 1), 0);
    }

    private void bestRide() {
        AssizeRide x = star();
        x.ride(0, 0, 6, 1);
        rode(x, 1, 2, 2, 7);
        x.commit(0, 2);
        due("the least sum", x.ride(0, 0, 6, 1), 2);
        rode(x, 2, 2, 1, 7);
        x.commit(1, 1);
        due("alike: the least row", x.ride(0, 0, 6, 1), 9);
        rode(x, 1, 2, 2, 7);
        x.road(0, 2, 1);
        AssizeRide y = new AssizeRide();
        y.road(0, 1, 3);
        y.road(0, 2, 1);
        y.road(1, 2, 3);
        due("no prisoners: the soonest end", y.ride(0, 0, 6, 1), 0);
        rode(y, 2, 1, 1, 5);
        y.road(0, 2, 3);
        due("one end: the least row", y.ride(0, 0, 6, 1), 0);
        rode(y, 1, 3, 2, 7);
    }

    private void daysLost() {
        AssizeRide x = star();
        x.ride(0, 10, 14, 2);
        rode(x, 1, 12, 2, 18, 3, 24);
        due("a day behind the first", x.late(1, 1), 0);
        rode(x, 1, 12, 2, 19, 3, 25);
        due("a day behind the second", x.late(2, 1), 0);
        rode(x, 1, 12, 2, 19, 3, 26);
        due("behind the last nothing is left to be late", x.late(3, 50), 0);
        rode(x, 1, 12, 2, 19, 3, 26);
        AssizeRide y = star();
        y.ride(0, 10, 1, 5);
        due("of one shire", y.late(1, 50), 0);
        rode(y, 0, 10);
    }

    private void restAsBest() {
        AssizeRide x = star();
        x.commit(0, 1);
        due("ride", x.ride(0, 10, 14, 1), 2);
        rode(x, 1, 12, 2, 17, 3, 22);
        x.commit(1, 3);
        due("late, the prisoners as they are now", x.late(1, 3), 2 + 10);
        rode(x, 1, 12, 3, 20, 2, 25);
        x.road(1, 2, 1);
        x.commit(2, 2);
        due("the roads as they are now", x.late(1, 1), 2 + 5 + 10);
        rode(x, 1, 12, 2, 15, 3, 20);
    }

    private void shortest() {
        AssizeRide x = new AssizeRide();
        for (int s = 0; s < 6; s++) {
            due("to itself", x.far(s, s), 0);
        }
        due("no way", x.far(0, 5), NONE);
        for (int s = 0; s < 5; s++) {
            x.road(s, s + 1, 9);
        }
        due("the longest way", x.far(0, 5), 45);
        due("back", x.far(5, 0), 45);
        x.road(5, 0, 9);
        due("a road", x.far(0, 5), 9);
        due("round about", x.far(1, 5), 18);
        due("half way", x.far(0, 3), 27);
        x.road(5, 0, NONE);
        due("the long way again", x.far(0, 5), 45);
        x.road(2, 3, NONE);
        due("cut", x.far(0, 5), NONE);
        due("cut at the road", x.far(2, 3), NONE);
        due("not beside it", x.far(0, 2), 18);
    }

    private void wrongFar() {
        within("from", 0, 5, RANGE, s -> star().far(s, 0));
        within("to", 0, 5, RANGE, o -> star().far(0, o));
    }

    private void rideBounds() {
        within("from", 0, 5, RANGE, from -> star().ride(from, 0, 1, 1));
        within("day", 0, 399, RANGE, day -> star().ride(0, day, 1, 1));
        within("set", 1, 63, RANGE, set -> star().ride(0, 0, set, 1));
        within("stay", 1, 5, RANGE, stay -> star().ride(0, 0, 1, stay));
        AssizeRide x = star();
        x.ride(0, 399, 63, 5);
        due("days beyond the last are told", x.rode(5, 1), 399 + 5 + 2 + 4 * 9);
    }

    private void noWay() {
        Supplier<AssizeRide> made = () -> {
            AssizeRide x = star();
            x.road(0, 5, NONE);
            x.ride(0, 7, 6, 2);
            return x;
        };
        refused("to one cut off", made, x -> x.ride(0, 0, 32, 1), NONE);
        refused("to all", made, x -> x.ride(0, 0, 63, 1), NONE);
        refused("from one cut off", made, x -> x.ride(5, 0, 33, 1), NONE);
        due("one cut off alone", made.get().ride(5, 0, 32, 1), 0);
        due("all the others", made.get().ride(0, 0, 31, 1), 0);
    }

    private static AssizeRide ridden() {
        AssizeRide x = star();
        x.ride(0, 7, 14, 2);
        return x;
    }

    private void wrongRides() {
        for (int from : new int[] {LEAST, -1, 6, MOST}) {
            refused("from " + from, EdgeRideTest::ridden, x -> x.ride(from, 0, 1, 1), RANGE);
        }
        for (int day : new int[] {LEAST, -1, 400, MOST}) {
            refused("on " + day, EdgeRideTest::ridden, x -> x.ride(0, day, 1, 1), RANGE);
        }
        for (int set : new int[] {LEAST, -1, 0, 64, 127, MOST}) {
            refused("through " + set, EdgeRideTest::ridden, x -> x.ride(0, 0, set, 1), RANGE);
        }
        for (int stay : new int[] {LEAST, -1, 0, 6, MOST}) {
            refused("stay " + stay, EdgeRideTest::ridden, x -> x.ride(0, 0, 1, stay), RANGE);
        }
        AssizeRide y = ridden();
        y.ride(0, 400, 1, 5);
        y.late(1, 1);
        rode(y, 1, 9, 2, 16, 3, 22);
    }

    /** A ROAD that was taken away since may cut the rest off; then the ride stays as it was. */
    private void cutOffSince() {
        AssizeRide x = ridden();
        x.road(0, 3, NONE);
        due("the last one is cut off", x.late(1, 1), NONE);
        due("also from the second", x.late(2, 1), NONE);
        rode(x, 1, 9, 2, 15, 3, 21);
        due("behind the last none is", x.late(3, 1), 0);
        x.road(0, 3, 2);
        x.road(0, 1, NONE);
        due("the first is cut off from the rest", x.late(1, 1), NONE);
        due("the second isn't", x.late(2, 1), 0);
        rode(x, 1, 9, 2, 15, 3, 22);
    }

    private void latestRide() {
        cutOffSince();
        AssizeRide x = ridden();
        rode(x, 1, 9, 2, 15, 3, 21);
        x.late(1, 1);
        rode(x, 1, 9, 2, 16, 3, 22);
        x.late(2, 1);
        rode(x, 1, 9, 2, 16, 3, 23);
        x.ride(0, 0, 6, 1);
        x.late(1, 50);
        rode(x, 1, 2, 2, 57);
        x.commit(0, 2);
        x.commit(1, 1);
        due("waits from the ride's first day", x.late(1, 1), 2 + 8);
    }

    private void lateBounds() {
        within("k", 1, 3, RANGE, k -> ridden().late(k, 1));
        within("days", 1, 50, RANGE, days -> ridden().late(1, days));
        AssizeRide x = ridden();
        x.late(1, 50);
        rode(x, 1, 9, 2, 65, 3, 71);
    }

    private void wrongLate() {
        for (int k : new int[] {LEAST, -1, 0, 4, 6, 7, MOST}) {
            refused("k " + k, EdgeRideTest::ridden, x -> x.late(k, 1), RANGE);
        }
        for (int days : new int[] {LEAST, -1, 0, 51, MOST}) {
            refused("days " + days, EdgeRideTest::ridden, x -> x.late(1, days), RANGE);
        }
    }

    private void noneTold() {
        refused("ahead of any", EdgeRideTest::star, x -> x.late(1, 1), STATE);
        refused("a wrong k ahead of any", EdgeRideTest::star, x -> x.late(0, 1), STATE);
        AssizeRide x = star();
        x.ride(0, 400, 1, 1);
        x.road(0, 5, NONE);
        x.ride(0, 0, 32, 1);
        due("behind those that weren't told", x.late(1, 1), STATE);
        x.ride(0, 0, 1, 1);
        due("behind one that was", x.late(1, 1), 0);
    }

    private void rodeNone() {
        due("ahead of any", star().rode(0, 0), NONE);
        within("i", 0, 2, NONE, i -> ridden().rode(i, 0));
        within("i, the day", 0, 2, NONE, i -> ridden().rode(i, 1));
        within("what", 0, 1, NONE, what -> ridden().rode(0, what));
        AssizeRide x = ridden();
        x.ride(0, 0, 1, 1);
        due("of a shorter ride", x.rode(1, 0), NONE);
        due("its first", x.rode(0, 0), 0);
        due("on day 0", x.rode(0, 1), 0);
    }
}
