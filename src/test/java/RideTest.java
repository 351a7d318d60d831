import java.util.ArrayList;
import java.util.List;
import java.util.Random;

/** Promises 59 to 62: ways, rides and rides that are LATE, the best also against all orders tried out. */
public final class RideTest {
    private static final Clerk c = new Clerk();

    public static void main(String[] args) {
        ways();
        refusals();
        choices();
        lateness();
        lateByRoadsAndPrisoners();
        bestOfAllOrders();
        c.close();
    }

    private static void ways() {
        AssizeRide x = new AssizeRide();
        c.due("to itself", x.far(3, 3), 0);
        c.due("no way", x.far(0, 1), Clerk.NONE);
        c.due("shire 6", x.far(0, 6), Clerk.RANGE);
        c.due("shire -1", x.far(-1, 0), Clerk.RANGE);
        for (int s = 0; s < 5; s++) {
            x.road(s, s + 1, 9);
        }
        c.due("through all", x.far(0, 5), 45);
        c.due("and back", x.far(5, 0), 45);
        x.road(0, 4, 3);
        c.due("a shorter way", x.far(0, 5), 12);
        c.due("back on it", x.far(3, 0), 12);
        x.road(4, 5, Clerk.NONE);
        c.due("cut off", x.far(0, 5), Clerk.NONE);
        c.due("not itself", x.far(5, 5), 0);
    }

    private static void refusals() {
        AssizeRide x = new AssizeRide();
        c.due("late ahead of any", x.late(1, 1), Clerk.STATE);
        c.due("wrong late ahead of any", x.late(0, 0), Clerk.STATE);
        c.due("rode ahead of any", x.rode(0, 0), Clerk.NONE);
        x.road(0, 1, 1);
        c.due("from 6", x.ride(6, 0, 1, 1), Clerk.RANGE);
        c.due("from -1", x.ride(-1, 0, 1, 1), Clerk.RANGE);
        c.due("day 400", x.ride(0, 400, 1, 1), Clerk.RANGE);
        c.due("day -1", x.ride(0, -1, 1, 1), Clerk.RANGE);
        c.due("no set", x.ride(0, 0, 0, 1), Clerk.RANGE);
        c.due("set 64", x.ride(0, 0, 64, 1), Clerk.RANGE);
        c.due("stay 0", x.ride(0, 0, 1, 0), Clerk.RANGE);
        c.due("stay 6", x.ride(0, 0, 1, 6), Clerk.RANGE);
        c.due("no way", x.ride(0, 0, 7, 1), Clerk.NONE);
        c.due("none was told", x.late(1, 1), Clerk.STATE);
        c.due("ride", x.ride(0, 399, 3, 5), 0);
        c.due("rode", x.rode(0, 0), 0);
        c.due("rode day", x.rode(0, 1), 399);
        c.due("beyond the last day", x.rode(1, 1), 405);
        c.due("rode what 2", x.rode(0, 2), Clerk.NONE);
        c.due("rode what -1", x.rode(0, -1), Clerk.NONE);
        c.due("rode 2", x.rode(2, 0), Clerk.NONE);
        c.due("rode -1", x.rode(-1, 0), Clerk.NONE);
        x.ride(0, 0, 4, 1);
        x.ride(0, 0, 0, 1);
        c.due("a ride that isn't told changes nothing", x.rode(1, 1), 405);
        c.due("k 0", x.late(0, 1), Clerk.RANGE);
        c.due("k 3", x.late(3, 1), Clerk.RANGE);
        c.due("days 0", x.late(1, 0), Clerk.RANGE);
        c.due("days 51", x.late(1, 51), Clerk.RANGE);
    }

    private static AssizeRide star() {
        AssizeRide x = new AssizeRide();
        Clerk.settle(x, 20);
        for (int s = 1; s < 4; s++) {
            x.road(0, s, 2);
        }
        return x;
    }

    private static void rode(AssizeRide x, int... shiresAndDays) {
        for (int i = 0; i < shiresAndDays.length; i++) {
            c.due("rode(" + i / 2 + ", " + i % 2 + ")", x.rode(i / 2, i % 2), shiresAndDays[i]);
        }
        c.due("rode no further", x.rode(shiresAndDays.length / 2, 0), Clerk.NONE);
    }

    private static void choices() {
        AssizeRide x = star();
        c.due("no prisoners", x.ride(0, 10, 15, 1), 0);
        rode(x, 0, 10, 1, 13, 2, 18, 3, 23);
        x.commit(0, 3);
        c.due("one prisoner", x.ride(0, 10, 15, 1), 2);
        rode(x, 3, 12, 0, 15, 1, 18, 2, 23);
        x.commit(1, 0);
        c.due("soonest end of one sum", x.ride(0, 10, 15, 1), 3);
        rode(x, 0, 10, 3, 13, 1, 18, 2, 23);
        c.due("without the first", x.ride(0, 0, 14, 3), 2);
        rode(x, 3, 2, 1, 9, 2, 16);
        c.due("one alone", x.ride(2, 5, 8, 2), 4);
        rode(x, 3, 9);
        AssizeRide y = new AssizeRide();
        y.road(0, 1, 3);
        y.road(0, 2, 1);
        y.road(1, 2, 3);
        c.due("the sooner end, not the least row", y.ride(0, 0, 6, 1), 0);
        rode(y, 2, 1, 1, 5);
        y.road(0, 2, 3);
        c.due("the least row", y.ride(0, 0, 6, 1), 0);
        rode(y, 1, 3, 2, 7);
    }

    private static void lateness() {
        AssizeRide x = star();
        x.commit(0, 3);
        x.commit(1, 2);
        x.commit(2, 1);
        c.due("ride", x.ride(0, 10, 14, 1), 2 + 7 + 12);
        rode(x, 1, 12, 2, 17, 3, 22);
        x.commit(3, 3);
        c.due("late", x.late(1, 50), 2 + 2 * 57 + 62);
        rode(x, 1, 12, 3, 67, 2, 72);
        c.due("late again", x.late(2, 1), 2 + 2 * 57 + 63);
        rode(x, 1, 12, 3, 67, 2, 73);
        c.due("late behind the last", x.late(3, 9), 2 + 2 * 57 + 63);
        rode(x, 1, 12, 3, 67, 2, 73);
        c.due("late behind the first", x.late(1, 2), 2 + 2 * 9 + 14);
        rode(x, 1, 12, 3, 19, 2, 24);
    }

    private static void lateByRoadsAndPrisoners() {
        AssizeRide x = star();
        x.ride(0, 0, 14, 2);
        rode(x, 1, 2, 2, 8, 3, 14);
        x.road(0, 3, Clerk.NONE);
        c.due("cut off since", x.late(1, 1), Clerk.NONE);
        rode(x, 1, 2, 2, 8, 3, 14);
        x.road(1, 3, 1);
        x.commit(0, 1);
        x.road(0, 1, Clerk.NONE);
        x.road(0, 3, 2);
        x.road(1, 3, Clerk.NONE);
        c.due("only the k-th is cut off", x.late(1, 1), Clerk.NONE);
        x.road(0, 1, 2);
        x.road(0, 3, Clerk.NONE);
        x.road(1, 3, 1);
        c.due("by the roads of now", x.late(1, 1), 2);
        rode(x, 1, 2, 3, 6, 2, 13);
    }

    private static void bestOfAllOrders() {
        Random random = new Random(11);
        for (int round = 0; round < 150; round++) {
            AssizeRide x = new AssizeRide();
            Clerk.settle(x, 12);
            for (int i = 0; i < 9; i++) {
                int s = random.nextInt(6);
                x.road(s, (s + 1 + random.nextInt(5)) % 6, 1 + random.nextInt(9));
            }
            for (int p = 0; p < 12; p++) {
                x.commit(p, random.nextInt(6));
            }
            int from = random.nextInt(6);
            int day = random.nextInt(400);
            int set = 1 + random.nextInt(63);
            int stay = 1 + random.nextInt(5);
            int waits = x.ride(from, day, set, stay);
            List<Integer> best = bestOrder(x, from, day, set, stay);
            c.due("waits of round " + round, waits, best == null ? Clerk.NONE : best.get(0));
            for (int i = 0; best != null && i < Integer.bitCount(set); i++) {
                c.due("shire " + i + " of round " + round, x.rode(i, 0), best.get(2 + i));
            }
        }
    }

    /** The waits, the end and the shires of the best order; null without a way. */
    private static List<Integer> bestOrder(AssizeRide x, int from, int day, int set, int stay) {
        int[][] far = new int[6][6];
        int[] prisoners = new int[6];
        for (int s = 0; s < 6; s++) {
            prisoners[s] = x.count(10 + s);
            for (int o = 0; o < 6; o++) {
                far[s][o] = x.far(s, o);
            }
        }
        List<List<Integer>> orders = new ArrayList<>();
        collect(new ArrayList<>(), set, orders);
        List<Integer> best = null;
        for (List<Integer> order : orders) {
            int here = from;
            int clock = day;
            int waits = 0;
            for (int s : order) {
                if (far[here][s] == Clerk.NONE) {
                    return null;
                }
                clock += far[here][s];
                waits += prisoners[s] * (clock - day);
                clock += stay;
                here = s;
            }
            List<Integer> row = new ArrayList<>(List.of(waits, clock));
            row.addAll(order);
            if (best == null || isLess(row, best)) {
                best = row;
            }
        }
        return best;
    }

    private static void collect(List<Integer> soFar, int rest, List<List<Integer>> orders) {
        if (rest == 0) {
            orders.add(new ArrayList<>(soFar));
        }
        for (int s = 5; s >= 0; s--) {
            if ((rest >> s & 1) == 1) {
                soFar.add(s);
                collect(soFar, rest & ~(1 << s), orders);
                soFar.remove(soFar.size() - 1);
            }
        }
    }

    private static boolean isLess(List<Integer> row, List<Integer> other) {
        for (int i = 0; i < row.size(); i++) {
            if (!row.get(i).equals(other.get(i))) {
                return row.get(i) < other.get(i);
            }
        }
        return false;
    }
}
