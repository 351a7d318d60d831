/** Boundary cases of SHIRES, DAYS, ROADS, PEOPLE and TELLINGS: Terms I, promises 1 and 4 to 12. */
public final class EdgePeopleTest extends Edges {
    public static void main(String[] args) {
        new EdgePeopleTest().test();
    }

    @Override
    void sentences() {
        in("I");
        edge("SHIRES 0 .. 5.", () -> within("person's shire", 0, 5, RANGE, s -> new AssizeRide().person(s, 0)));
        edge("DAYS 0 .. 399", () -> within("day of land", 0, 399, RANGE, day -> two().land(1, 5, day)));
        edge("the CLOCK's day is 0 at first", () -> due("day", new AssizeRide().count(0), 0));
        edge("ROADS between two SHIRES (either way) take 1 .. 9 days", this::roadsTake);
        edge("none at first", this::noRoads);
        edge("PEOPLE, at most 120, numbered from 0 as they come", this::mostPeople);
        edge("a HUNDRED 0 .. 9", () -> within("hundred", 0, 9, RANGE, h -> new AssizeRide().person(0, h)));
        edge("TELLINGS, at most 300", this::mostTellings);
        edge("each KNOWN from the CLOCK's day on on which it is told", this::knownFrom);
        edge("LAND of one: pounds 0 .. 9999 from a day on", this::landFrom);
        edge("DEAD: one is from a day on", this::deadFrom);
        edge("KIN of two: a degree 1 .. 4, or 0: none", this::degrees);
        edge("whose first day isn't behind that day", this::firstDayOfLand);
        edge("the one with the latest first day (of one day that told last)", this::latestLand);
        edge("0 without. DEAD", () -> due("no land was told", two().landOn(0, 399, 399), 0));
        edge("some TELLING KNOWN by then has a first day that isn't behind it", this::someDeath);
        edge("KIN as KNOWN on a day: what was told last by then", this::latestKin);
        edge("what was told last by then; 0 without", () -> due("no kin was told", two().kinOn(0, 1, 399), 0));
        in("1");
        edge("The CLOCK's day 0, no ROADS, nobody, no ACTS", this::newObject);
        roadsAndDays();
        peopleAndTellings();
        questions();
    }

    private void roadsAndDays() {
        in("4");
        edge("between two SHIRES (unlike)", this::roadToItself);
        edge("takes so many days (NONE: there is none)", this::roadTakenAway);
        edge("what it took (NONE)", this::whatItTook);
        edge("RANGE", this::wrongRoads);
        in("5");
        edge("So many days (1 .. 100) pass", () -> within("days", 1, 100, RANGE, n -> new AssizeRide().pass(n)));
        edge("the CLOCK's day", this::daysPass);
        edge("RANGE, also beyond 399", this::lastDay);
    }

    private void peopleAndTellings() {
        in("6");
        edge("One of PEOPLE comes: the number; RANGE", this::wrongPeople);
        edge("FULL", this::peopleFull);
        in("7");
        edge("how many TELLINGS there are", this::howManyTellings);
        edge("RANGE: no such one, pounds, day (0 .. 399)", this::wrongLand);
        edge("FULL", this::landFull);
        in("8");
        edge("One is DEAD from a day on, likewise", this::wrongDeath);
        in("9");
        edge("KIN of two (unlike) is told", this::kinToOneself);
        edge("how many MATTERS are begun again by it", () -> due("none are", two().kin(0, 1, 4), 0));
        edge("RANGE: no such, degree 0 .. 4", this::wrongKin);
        edge("FULL: the 301st TELLING", this::kinFull);
    }

    private void questions() {
        in("10");
        edge("LAND of one for a day, as KNOWN on a day; RANGE", this::wrongLandOn);
        in("11");
        edge("1 if one is DEAD on a day, as KNOWN on a day, else 0; RANGE", this::wrongDeadOn);
        in("12");
        edge("KIN of two (unlike), as KNOWN on a day; RANGE", this::wrongKinOn);
    }

    private static AssizeRide two() {
        AssizeRide x = new AssizeRide();
        x.person(0, 0);
        x.person(5, 9);
        return x;
    }

    private void roadsTake() {
        for (int days : new int[] {1, 9}) {
            AssizeRide x = new AssizeRide();
            due("road of " + days, x.road(2, 4, days), NONE);
            due("this way", x.far(2, 4), days);
            due("the other way", x.far(4, 2), days);
        }
        for (int days : new int[] {LEAST, -2, 0, 10, MOST}) {
            AssizeRide x = new AssizeRide();
            due("road of " + days, x.road(2, 4, days), RANGE);
            due("is none", x.far(2, 4), NONE);
        }
    }

    private void noRoads() {
        AssizeRide x = new AssizeRide();
        for (int s = 0; s < 6; s++) {
            for (int o = 0; o < 6; o++) {
                due("far(" + s + ", " + o + ")", x.far(s, o), s == o ? 0 : NONE);
            }
        }
    }

    private static AssizeRide crowded() {
        AssizeRide x = new AssizeRide();
        for (int p = 0; p < 120; p++) {
            x.person(p % 6, p % 10);
        }
        return x;
    }

    private void mostPeople() {
        AssizeRide x = new AssizeRide();
        due("nobody yet", x.land(0, 1, 0), RANGE);
        for (int p = 0; p < 120; p++) {
            due("person", x.person(p % 6, p % 10), p);
        }
        due("the 121st", x.person(0, 0), FULL);
        due("people", x.count(1), 120);
        due("the last one", x.land(119, 7, 0), 1);
        due("has land", x.landOn(119, 0, 0), 7);
        due("one behind the last", x.land(120, 7, 0), RANGE);
        due("kin of the last two", x.kin(119, 118, 3), 0);
        due("is known", x.kinOn(118, 119, 0), 3);
        due("the last one in gaol", x.commit(119, 0), 1);
        due("and the first", x.commit(0, 0), 2);
        due("both are freed", x.deliver(0), 2);
    }

    private static AssizeRide toldOf(int tellings) {
        AssizeRide x = two();
        for (int i = 0; i < tellings; i++) {
            if (i % 3 == 0) {
                x.land(0, i, 0);
            } else if (i % 3 == 1) {
                x.dead(1, 399);
            } else {
                x.kin(0, 1, i % 5);
            }
        }
        return x;
    }

    private void mostTellings() {
        AssizeRide x = toldOf(299);
        due("tellings", x.count(2), 299);
        due("the 300th", x.land(1, 77, 0), 300);
        due("it holds", x.landOn(1, 0, 0), 77);
        due("the 300th is a death", toldOf(299).dead(0, 0), 300);
        AssizeRide y = toldOf(299);
        due("the 300th is kin", y.kin(1, 0, 4), 0);
        due("it holds too", y.kinOn(0, 1, 0), 4);
        due("tellings", y.count(2), 300);
        due("land, the 301st", y.land(0, 1, 0), FULL);
        due("a death, the 301st", y.dead(0, 0), FULL);
        due("kin, the 301st", y.kin(0, 1, 1), FULL);
        due("tellings still", y.count(2), 300);
        due("the land as it was", y.landOn(0, 0, 0), 297);
        due("who lives still", y.deadOn(0, 399, 0), 0);
        due("the kin as it was", y.kinOn(0, 1, 0), 4);
    }

    private void knownFrom() {
        AssizeRide x = two();
        x.pass(5);
        x.land(0, 7, 0);
        x.dead(0, 0);
        x.kin(0, 1, 3);
        for (int known : new int[] {0, 4, 5, 6, 399}) {
            boolean isKnown = known >= 5;
            due("land as known on " + known, x.landOn(0, 0, known), isKnown ? 7 : 0);
            due("death as known on " + known, x.deadOn(0, 0, known), isKnown ? 1 : 0);
            due("kin as known on " + known, x.kinOn(0, 1, known), isKnown ? 3 : 0);
        }
    }

    private void landFrom() {
        within("pounds", 0, 9999, RANGE, pounds -> two().land(0, pounds, 0));
        for (int from : new int[] {0, 1, 200, 399}) {
            AssizeRide x = two();
            due("land from " + from, x.land(0, 9999, from), 1);
            due("on that day", x.landOn(0, from, 0), 9999);
            due("on the last day", x.landOn(0, 399, 0), 9999);
            if (from > 0) {
                due("a day ahead", x.landOn(0, from - 1, 0), 0);
            }
        }
        AssizeRide y = two();
        y.land(0, 5, 0);
        due("no pounds", y.land(0, 0, 3), 2);
        due("hold from their day on", y.landOn(0, 3, 0), 0);
        due("not ahead of it", y.landOn(0, 2, 0), 5);
    }

    private void deadFrom() {
        for (int from : new int[] {0, 1, 200, 399}) {
            AssizeRide x = two();
            due("dead from " + from, x.dead(0, from), 1);
            due("on that day", x.deadOn(0, from, 0), 1);
            due("on the last day", x.deadOn(0, 399, 0), 1);
            due("the other one", x.deadOn(1, 399, 0), 0);
            if (from > 0) {
                due("a day ahead", x.deadOn(0, from - 1, 0), 0);
            }
        }
    }

    private void degrees() {
        for (int degree = 0; degree <= 4; degree++) {
            AssizeRide x = two();
            due("kin of degree " + degree, x.kin(0, 1, degree), 0);
            due("is known", x.kinOn(0, 1, 0), degree);
            due("either way", x.kinOn(1, 0, 0), degree);
            due("it is a telling", x.count(2), 1);
        }
        within("degree", 0, 4, RANGE, degree -> two().kin(0, 1, degree));
    }

    private void firstDayOfLand() {
        AssizeRide x = two();
        x.land(0, 10, 100);
        x.land(0, 20, 101);
        due("on 99", x.landOn(0, 99, 0), 0);
        due("on 100", x.landOn(0, 100, 0), 10);
        due("on 101", x.landOn(0, 101, 0), 20);
    }

    private void latestLand() {
        AssizeRide x = two();
        x.land(0, 10, 100);
        x.land(0, 20, 99);
        due("the later day, though told first", x.landOn(0, 100, 0), 10);
        x.land(0, 30, 100);
        due("of one day that told last", x.landOn(0, 100, 0), 30);
        due("the earlier day alone", x.landOn(0, 99, 0), 20);
        x.pass(1);
        x.land(0, 40, 100);
        due("told last", x.landOn(0, 399, 1), 40);
        due("as known a day ahead", x.landOn(0, 399, 0), 30);
        x.land(0, 50, 0);
        due("told last of an earlier day", x.landOn(0, 399, 1), 40);
        due("from day 0 on", x.landOn(0, 98, 1), 50);
    }

    private void someDeath() {
        AssizeRide x = two();
        x.pass(1);
        x.dead(0, 50);
        x.dead(0, 60);
        due("by the earlier day, though another was told since", x.deadOn(0, 50, 1), 1);
        due("a day ahead of both", x.deadOn(0, 49, 1), 0);
        x.pass(1);
        x.dead(0, 40);
        due("known a day later", x.deadOn(0, 40, 2), 1);
        due("not known yet", x.deadOn(0, 40, 1), 0);
    }

    private void latestKin() {
        AssizeRide x = two();
        x.pass(3);
        x.kin(0, 1, 1);
        x.kin(1, 0, 2);
        due("of one day that told last", x.kinOn(0, 1, 3), 2);
        due("a day ahead", x.kinOn(0, 1, 2), 0);
        x.pass(1);
        x.kin(0, 1, 0);
        due("none, told last", x.kinOn(0, 1, 4), 0);
        due("a day ahead of that", x.kinOn(0, 1, 3), 2);
    }

    private void newObject() {
        AssizeRide x = new AssizeRide();
        for (int what = 0; what <= 8; what++) {
            due("count(" + what + ")", x.count(what), 0);
        }
        due("no road to take away", x.road(0, 1, NONE), NONE);
        due("the first one of people", x.person(0, 0), 0);
        due("the first act", x.act(0, 1), 0);
    }

    private void roadToItself() {
        for (int s = 0; s < 6; s++) {
            int shire = s;
            refused("road from " + s + " to itself", EdgePeopleTest::two, x -> x.road(shire, shire, 1), RANGE);
            refused("no road from " + s + " to itself", EdgePeopleTest::two, x -> x.road(shire, shire, NONE), RANGE);
        }
        due("to the next", two().road(4, 5, 1), NONE);
    }

    private void roadTakenAway() {
        AssizeRide x = new AssizeRide();
        x.road(0, 5, 3);
        due("taken away", x.road(5, 0, NONE), 3);
        due("no way", x.far(0, 5), NONE);
        due("nor back", x.far(5, 0), NONE);
        due("taken away again", x.road(0, 5, NONE), NONE);
        due("-2 is no such", x.road(0, 5, -2), RANGE);
    }

    private void whatItTook() {
        AssizeRide x = new AssizeRide();
        due("none ahead", x.road(0, 1, 9), NONE);
        due("9 ahead", x.road(1, 0, 1), 9);
        due("1 ahead", x.road(0, 1, 1), 1);
        due("another road", x.road(0, 2, 1), NONE);
        due("it tells the road, not the way", x.road(1, 2, 9), NONE);
        due("though the way is shorter", x.road(1, 2, 9), 9);
    }

    private void wrongRoads() {
        within("from", 0, 5, RANGE, s -> new AssizeRide().road(s, 3, 1));
        within("to", 0, 5, RANGE, o -> new AssizeRide().road(3, o, 1));
        for (int days : new int[] {0, 10}) {
            refused("road of " + days + " days", () -> {
                AssizeRide x = two();
                x.road(0, 1, 4);
                return x;
            }, x -> x.road(0, 1, days), RANGE);
        }
    }

    private void daysPass() {
        AssizeRide x = new AssizeRide();
        due("one day", x.pass(1), 1);
        due("a hundred", x.pass(100), 101);
        due("the day", x.count(0), 101);
        refused("none", EdgePeopleTest::two, y -> y.pass(0), RANGE);
        refused("101", EdgePeopleTest::two, y -> y.pass(101), RANGE);
    }

    private static AssizeRide on(int day) {
        AssizeRide x = two();
        for (int rest = day; rest > 0; rest -= 100) {
            x.pass(Math.min(rest, 100));
        }
        return x;
    }

    private void lastDay() {
        due("299 and 100", on(299).pass(100), 399);
        due("300 and 99", on(300).pass(99), 399);
        due("398 and 1", on(398).pass(1), 399);
        refused("300 and 100", () -> on(300), x -> x.pass(100), RANGE);
        refused("398 and 2", () -> on(398), x -> x.pass(2), RANGE);
        refused("399 and 1", () -> on(399), x -> x.pass(1), RANGE);
        refused("399 and as many as there are", () -> on(399), x -> x.pass(MOST), RANGE);
        due("what is told on the last day", on(399).land(0, 1, 399), 1);
    }

    private void wrongPeople() {
        for (int shire : new int[] {LEAST, -1, 6, MOST}) {
            refused("shire " + shire, EdgePeopleTest::two, x -> x.person(shire, 0), RANGE);
        }
        for (int hundred : new int[] {LEAST, -1, 10, MOST}) {
            refused("hundred " + hundred, EdgePeopleTest::two, x -> x.person(0, hundred), RANGE);
        }
        due("the next number", two().person(5, 9), 2);
    }

    private void peopleFull() {
        refused("the 121st", EdgePeopleTest::crowded, x -> x.person(0, 0), FULL);
        refused("the 121st of shire 6", EdgePeopleTest::crowded, x -> x.person(6, 0), RANGE);
        refused("the 121st of hundred 10", EdgePeopleTest::crowded, x -> x.person(0, 10), RANGE);
    }

    private void howManyTellings() {
        AssizeRide x = two();
        due("the first", x.land(0, 1, 0), 1);
        due("a second of the same", x.land(0, 1, 0), 2);
        x.kin(0, 1, 1);
        due("behind a kin", x.dead(0, 0), 4);
        due("behind a death", x.land(1, 1, 0), 5);
    }

    private void wrongLand() {
        for (int p : new int[] {LEAST, -1, 2, MOST}) {
            refused("land of " + p, EdgePeopleTest::two, x -> x.land(p, 1, 0), RANGE);
        }
        for (int pounds : new int[] {LEAST, -1, 10000, MOST}) {
            refused("pounds " + pounds, EdgePeopleTest::two, x -> x.land(0, pounds, 0), RANGE);
        }
        for (int from : new int[] {LEAST, -1, 400, MOST}) {
            refused("land from " + from, EdgePeopleTest::two, x -> x.land(0, 1, from), RANGE);
        }
        due("of nobody, ahead of all people", new AssizeRide().land(0, 1, 0), RANGE);
    }

    private void landFull() {
        refused("the 301st", () -> toldOf(300), x -> x.land(0, 1, 0), FULL);
        refused("the 301st, wrong pounds", () -> toldOf(300), x -> x.land(0, -1, 0), RANGE);
        refused("the 301st, wrong day", () -> toldOf(300), x -> x.land(0, 1, 400), RANGE);
        refused("the 301st, of nobody", () -> toldOf(300), x -> x.land(2, 1, 0), RANGE);
    }

    private void wrongDeath() {
        for (int p : new int[] {LEAST, -1, 2, MOST}) {
            refused("death of " + p, EdgePeopleTest::two, x -> x.dead(p, 0), RANGE);
        }
        within("dead from", 0, 399, RANGE, from -> two().dead(0, from));
        for (int from : new int[] {-1, 400}) {
            refused("dead from " + from, EdgePeopleTest::two, x -> x.dead(0, from), RANGE);
        }
        refused("the 301st", () -> toldOf(300), x -> x.dead(0, 0), FULL);
        refused("the 301st, wrong day", () -> toldOf(300), x -> x.dead(0, 400), RANGE);
        refused("the 301st, of nobody", () -> toldOf(300), x -> x.dead(2, 0), RANGE);
    }

    private void kinToOneself() {
        refused("kin of 0 and 0", EdgePeopleTest::two, x -> x.kin(0, 0, 1), RANGE);
        refused("kin of 1 and 1", EdgePeopleTest::two, x -> x.kin(1, 1, 0), RANGE);
    }

    private void wrongKin() {
        for (int p : new int[] {LEAST, -1, 2, MOST}) {
            refused("kin of " + p, EdgePeopleTest::two, x -> x.kin(p, 1, 1), RANGE);
            refused("kin to " + p, EdgePeopleTest::two, x -> x.kin(0, p, 1), RANGE);
        }
        for (int degree : new int[] {LEAST, -1, 5, MOST}) {
            refused("degree " + degree, EdgePeopleTest::two, x -> x.kin(0, 1, degree), RANGE);
        }
    }

    private void kinFull() {
        due("the 300th", toldOf(299).kin(0, 1, 1), 0);
        refused("the 301st", () -> toldOf(300), x -> x.kin(0, 1, 1), FULL);
        refused("the 301st, none", () -> toldOf(300), x -> x.kin(0, 1, 0), FULL);
        refused("the 301st, degree 5", () -> toldOf(300), x -> x.kin(0, 1, 5), RANGE);
        refused("the 301st, to oneself", () -> toldOf(300), x -> x.kin(0, 0, 1), RANGE);
        refused("the 301st, of nobody", () -> toldOf(300), x -> x.kin(0, 2, 1), RANGE);
    }

    private void wrongLandOn() {
        within("landOn whom", 0, 1, RANGE, p -> two().landOn(p, 0, 0));
        within("landOn day", 0, 399, RANGE, day -> two().landOn(0, day, 0));
        within("landOn known", 0, 399, RANGE, known -> two().landOn(0, 0, known));
        due("of nobody", new AssizeRide().landOn(0, 0, 0), RANGE);
    }

    private void wrongDeadOn() {
        within("deadOn whom", 0, 1, RANGE, p -> two().deadOn(p, 0, 0));
        within("deadOn day", 0, 399, RANGE, day -> two().deadOn(0, day, 0));
        within("deadOn known", 0, 399, RANGE, known -> two().deadOn(0, 0, known));
        due("of nobody", new AssizeRide().deadOn(0, 0, 0), RANGE);
    }

    private void wrongKinOn() {
        within("kinOn whom", 0, 1, RANGE, p -> three().kinOn(p, 2, 0));
        within("kinOn to whom", 0, 1, RANGE, q -> three().kinOn(2, q, 0));
        within("kinOn known", 0, 399, RANGE, known -> two().kinOn(0, 1, known));
        due("of one behind the last", three().kinOn(3, 0, 0), RANGE);
        due("to one behind the last", three().kinOn(0, 3, 0), RANGE);
        due("of 0 and 0", two().kinOn(0, 0, 0), RANGE);
        due("of 1 and 1", two().kinOn(1, 1, 0), RANGE);
    }

    private static AssizeRide three() {
        AssizeRide x = two();
        x.person(3, 3);
        return x;
    }
}
