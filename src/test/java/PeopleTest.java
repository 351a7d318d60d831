/** Promises 1 to 12: the tape, roads, days, PEOPLE and what is told of them. */
public final class PeopleTest {
    private static final Clerk c = new Clerk();

    public static void main(String[] args) {
        newObject();
        tape();
        roads();
        days();
        persons();
        lands();
        deaths();
        kin();
        tellingsAreLimited();
        c.close();
    }

    private static void newObject() {
        AssizeRide x = new AssizeRide();
        for (int what = 0; what <= 8; what++) {
            c.due("new count(" + what + ")", x.count(what), 0);
        }
        c.due("new far", x.far(0, 1), Clerk.NONE);
        c.due("new landOn", x.landOn(0, 0, 0), Clerk.RANGE);
        c.due("new told", x.told(0, 0), Clerk.NONE);
        c.due("new tells jury", x.tells(7, 0, 0), 6);
        c.due("new matter", x.matter(0, 0), Clerk.ABSENT);
    }

    private static void tape() {
        AssizeRide x = new AssizeRide();
        c.due("feed", x.feed(0x64656564, 0x20612062, 0x20632064, 0x20652066, 0x20672068), 20);
        c.due("end beyond", x.end(21), Clerk.NONE);
        c.due("end below", x.end(-1), Clerk.NONE);
        c.due("bytes", x.count(7), 20);
        c.due("end whole", x.end(20), 20);
        c.due("end of one", x.end(4), 4);
        c.due("bytes left", x.count(7), 4);
        c.due("feed behind", x.feed(0x20202020, 0x20202020, 0x20202020, 0x20202020, 0x20202020), 24);
        c.due("the highest byte came first", x.act(0, 1), Clerk.NONE);
        c.due("it read deed", x.fault(1), 24);
        c.due("it was emptied", x.count(7), 0);
        for (int i = 1; i <= 60; i++) {
            c.due("feed " + i, x.feed(-1, -1, -1, -1, -1), 20 * i);
        }
        c.due("feed the 61st", x.feed(1, 1, 1, 1, 1), Clerk.FULL);
        c.due("nothing was cut", x.count(7), 1200);
        c.due("end of 1199", x.end(1199), 1199);
        c.due("no half of twenty", x.feed(1, 1, 1, 1, 1), Clerk.FULL);
        c.due("end of 1181", x.end(1181), 1181);
        c.due("no room for the last of twenty", x.feed(1, 1, 1, 1, 1), Clerk.FULL);
        c.due("end of 1180", x.end(1180), 1180);
        c.due("room for twenty", x.feed(1, 1, 1, 1, 1), 1200);
        c.due("bytes above 127", x.act(0, 1), Clerk.NONE);
        c.due("are no tokens", x.fault(0), 1);
        readersEmptyIt();
    }

    private static void readersEmptyIt() {
        AssizeRide x = new AssizeRide();
        for (int reader = 0; reader < 14; reader++) {
            Clerk.say(x, "what is this");
            c.due("a refusal of reader " + reader, read(x, reader), Clerk.RANGE);
            c.due("reader " + reader + " empties it", x.count(7), 0);
        }
        Clerk.say(x, "two words").settle(true);
        c.due("settle empties it", x.count(7), 0);
        Clerk.say(x, "jury").tells(7, 0, 0);
        c.due("tells of a jury empties it", x.count(7), 0);
    }

    private static int read(AssizeRide x, int reader) {
        switch (reader) {
            case 0: return x.act(-1, 1);
            case 1: return x.law(14, 0, 0);
            case 2: return x.tells(-1, 0, 0);
            case 3: return x.quarrel(0, 400, 0);
            case 4: return x.weigh(0, 6);
            case 5: return x.crown(0, 0, 0, 0);
            case 6: return x.plea(0, 1, 0, 0, 0, 1);
            case 7: return x.words(0);
            case 8: return x.allege(0);
            case 9: return x.hear(0);
            case 10: return x.prove(0);
            case 11: return x.roll(3);
            case 12: return x.law(7, 0, -1);
            default: return x.roll(-1);
        }
    }

    private static void roads() {
        AssizeRide x = new AssizeRide();
        c.due("road", x.road(0, 5, 9), Clerk.NONE);
        c.due("road again, the other way", x.road(5, 0, 1), 9);
        c.due("far", x.far(0, 5), 1);
        c.due("road away", x.road(0, 5, Clerk.NONE), 1);
        c.due("far without", x.far(5, 0), Clerk.NONE);
        c.due("road away again", x.road(0, 5, Clerk.NONE), Clerk.NONE);
        c.due("road of 0 days", x.road(0, 1, 0), Clerk.RANGE);
        c.due("road of 10 days", x.road(0, 1, 10), Clerk.RANGE);
        c.due("road of -2 days", x.road(0, 1, -2), Clerk.RANGE);
        c.due("road to itself", x.road(2, 2, 3), Clerk.RANGE);
        c.due("road from -1", x.road(-1, 2, 3), Clerk.RANGE);
        c.due("road to 6", x.road(2, 6, 3), Clerk.RANGE);
        c.due("nothing of that", x.far(0, 1), Clerk.NONE);
    }

    private static void days() {
        AssizeRide x = new AssizeRide();
        c.due("pass none", x.pass(0), Clerk.RANGE);
        c.due("pass 101", x.pass(101), Clerk.RANGE);
        c.due("pass 100", x.pass(100), 100);
        c.due("pass 1", x.pass(1), 101);
        x.pass(100);
        x.pass(100);
        c.due("pass to 400", x.pass(99), Clerk.RANGE);
        c.due("day stays", x.count(0), 301);
        c.due("pass to 399", x.pass(98), 399);
        c.due("pass beyond", x.pass(1), Clerk.RANGE);
        c.due("pass by the greatest int", x.pass(Integer.MAX_VALUE), Clerk.RANGE);
    }

    private static void persons() {
        AssizeRide x = new AssizeRide();
        c.due("shire 6", x.person(6, 0), Clerk.RANGE);
        c.due("shire -1", x.person(-1, 0), Clerk.RANGE);
        c.due("hundred 10", x.person(0, 10), Clerk.RANGE);
        c.due("hundred -1", x.person(0, -1), Clerk.RANGE);
        for (int p = 0; p < 120; p++) {
            c.due("person " + p, x.person(p % 6, p % 10), p);
        }
        c.due("the 121st", x.person(0, 0), Clerk.FULL);
        c.due("the 121st wrong", x.person(0, 10), Clerk.RANGE);
        c.due("people", x.count(1), 120);
    }

    private static void lands() {
        AssizeRide x = new AssizeRide();
        x.person(0, 0);
        x.person(0, 0);
        c.due("land", x.land(0, 50, 10), 1);
        c.due("land later told, earlier from", x.land(0, 30, 5), 2);
        c.due("before any", x.landOn(0, 4, 0), 0);
        c.due("from 5", x.landOn(0, 5, 0), 30);
        c.due("on 9", x.landOn(0, 9, 0), 30);
        c.due("from 10", x.landOn(0, 10, 0), 50);
        c.due("of another", x.landOn(1, 10, 0), 0);
        x.pass(3);
        c.due("of one day", x.land(0, 70, 10), 3);
        c.due("told last", x.landOn(0, 399, 3), 70);
        c.due("as known before", x.landOn(0, 399, 2), 50);
        c.due("none of it", x.land(0, 0, 20), 4);
        c.due("of 0 pounds", x.landOn(0, 20, 399), 0);
        c.due("most pounds", x.land(1, 9999, 399), 5);
        c.due("pounds 10000", x.land(1, 10000, 0), Clerk.RANGE);
        c.due("pounds -1", x.land(1, -1, 0), Clerk.RANGE);
        c.due("from 400", x.land(1, 1, 400), Clerk.RANGE);
        c.due("from -1", x.land(1, 1, -1), Clerk.RANGE);
        c.due("land of nobody", x.land(2, 1, 0), Clerk.RANGE);
        c.due("landOn nobody", x.landOn(2, 0, 0), Clerk.RANGE);
        c.due("landOn -1", x.landOn(-1, 0, 0), Clerk.RANGE);
        c.due("landOn day 400", x.landOn(0, 400, 0), Clerk.RANGE);
        c.due("landOn day -1", x.landOn(0, -1, 0), Clerk.RANGE);
        c.due("landOn known 400", x.landOn(0, 0, 400), Clerk.RANGE);
        c.due("landOn known -1", x.landOn(0, 0, -1), Clerk.RANGE);
    }

    private static void deaths() {
        AssizeRide x = new AssizeRide();
        x.person(0, 0);
        x.person(0, 0);
        x.pass(7);
        c.due("dead", x.dead(0, 5), 1);
        c.due("a day ahead", x.deadOn(0, 4, 7), 0);
        c.due("that day", x.deadOn(0, 5, 7), 1);
        c.due("not known yet", x.deadOn(0, 5, 6), 0);
        c.due("another lives", x.deadOn(1, 399, 399), 0);
        c.due("dead earlier", x.dead(0, 2), 2);
        c.due("by any telling", x.deadOn(0, 2, 7), 1);
        c.due("no land by that", x.landOn(0, 399, 399), 0);
        c.due("dead nobody", x.dead(2, 0), Clerk.RANGE);
        c.due("dead from 400", x.dead(0, 400), Clerk.RANGE);
        c.due("dead from -1", x.dead(0, -1), Clerk.RANGE);
        c.due("deadOn nobody", x.deadOn(2, 0, 0), Clerk.RANGE);
        c.due("deadOn day 400", x.deadOn(0, 400, 0), Clerk.RANGE);
        c.due("deadOn known -1", x.deadOn(0, 0, -1), Clerk.RANGE);
    }

    private static void kin() {
        AssizeRide x = new AssizeRide();
        for (int p = 0; p < 3; p++) {
            x.person(0, 0);
        }
        c.due("kin", x.kin(0, 1, 2), 0);
        c.due("either way", x.kinOn(1, 0, 0), 2);
        c.due("of others", x.kinOn(1, 2, 0), 0);
        x.pass(4);
        c.due("kin told anew", x.kin(1, 0, 4), 0);
        c.due("told last", x.kinOn(0, 1, 4), 4);
        c.due("as known before", x.kinOn(0, 1, 3), 2);
        c.due("kin none", x.kin(0, 1, 0), 0);
        c.due("none told last", x.kinOn(0, 1, 399), 0);
        c.due("tellings", x.count(2), 3);
        c.due("kin of itself", x.kin(1, 1, 1), Clerk.RANGE);
        c.due("kin of nobody", x.kin(0, 3, 1), Clerk.RANGE);
        c.due("nobody's kin", x.kin(-1, 0, 1), Clerk.RANGE);
        c.due("degree 5", x.kin(0, 1, 5), Clerk.RANGE);
        c.due("degree -1", x.kin(0, 1, -1), Clerk.RANGE);
        c.due("kinOn itself", x.kinOn(1, 1, 0), Clerk.RANGE);
        c.due("kinOn nobody", x.kinOn(0, 3, 0), Clerk.RANGE);
        c.due("kinOn known 400", x.kinOn(0, 1, 400), Clerk.RANGE);
        c.due("kinOn known -1", x.kinOn(0, 1, -1), Clerk.RANGE);
    }

    private static void tellingsAreLimited() {
        AssizeRide x = new AssizeRide();
        x.person(0, 0);
        x.person(0, 0);
        for (int i = 1; i <= 100; i++) {
            c.due("land " + i, x.land(0, i, 0), 3 * i - 2);
            c.due("dead " + i, x.dead(1, 399), 3 * i - 1);
            c.due("kin " + i, x.kin(0, 1, 1), 0);
        }
        c.due("land, the 301st", x.land(0, 1, 0), Clerk.FULL);
        c.due("dead, the 301st", x.dead(0, 1), Clerk.FULL);
        c.due("kin, the 301st", x.kin(0, 1, 1), Clerk.FULL);
        c.due("a wrong one is RANGE still", x.kin(0, 0, 1), Clerk.RANGE);
        c.due("tellings", x.count(2), 300);
    }
}
