/** What the tests share: feeding texts, comparing answers, and the end of a test. */
final class Clerk {
    static final int NONE = AssizeRide.NONE;
    static final int RANGE = AssizeRide.RANGE;
    static final int FULL = AssizeRide.FULL;
    static final int STATE = AssizeRide.STATE;
    static final int ABSENT = -9;

    private int asked = 0;
    private int wrong = 0;

    void due(String call, long got, long want) {
        asked++;
        if (got != want) {
            wrong++;
            System.out.println(call + " answered " + got + ", due is " + want);
        }
    }

    void close() {
        System.out.println(asked + " answers, " + wrong + " not as due");
        if (wrong != 0 || asked == 0) {
            System.exit(1);
        }
    }

    /** THE TAPE is this text and nothing else. */
    static AssizeRide say(AssizeRide x, String text) {
        x.end(0);
        for (int i = 0; i < text.length(); i += 20) {
            int[] fives = new int[5];
            for (int j = 0; j < 20; j++) {
                int b = i + j < text.length() ? text.charAt(i + j) : ' ';
                fives[j / 4] = fives[j / 4] << 8 | b & 255;
            }
            x.feed(fives[0], fives[1], fives[2], fives[3], fives[4]);
        }
        if (x.end(text.length()) != text.length()) {
            throw new IllegalStateException("the tape has no room for " + text);
        }
        return x;
    }

    /** An object with one ACT in force everywhere from day 0 on. */
    static AssizeRide under(String text) {
        AssizeRide x = new AssizeRide();
        if (say(x, text).act(0, 63) != 0) {
            throw new IllegalStateException("no act: " + text);
        }
        return x;
    }

    /** So many PEOPLE of SHIRE 0 and HUNDRED 0, each with land enough. */
    static void settle(AssizeRide x, int people) {
        for (int i = 0; i < people; i++) {
            x.land(x.person(0, 0), 100, 0);
        }
    }

    /** A CROWN MATTER of person 0 in SHIRE 0 and HUNDRED 0 today, with a TRUE BILL. */
    static int indict(AssizeRide x, String deed, String words, String facts) {
        int m = say(x, deed).crown(0, 0, 0, x.count(0));
        say(x, words).words(m);
        say(x, facts).allege(m);
        if (x.bill(m, 23) != 2) {
            throw new IllegalStateException("no true bill: " + x.bad(m));
        }
        return m;
    }

    /** The jury of a MATTER is drawn, always the first who could be. */
    static void swear(AssizeRide x, int m, int jurors) {
        for (int i = 0; i < jurors; i++) {
            if (x.draw(m, 0) < 0) {
                throw new IllegalStateException("nobody to draw for " + m);
            }
        }
    }

    static int hear(AssizeRide x, int m, int jurors, String facts) {
        swear(x, m, jurors);
        return say(x, facts).hear(m);
    }

    /** MATTER 0, a CROWN one of the deed t against person 0, brought to a STATE where the law of deed t allows it. */
    static AssizeRide bringTo(int state, AssizeRide x) {
        say(x, "t").crown(0, 0, 0, 0);
        say(x, "w").words(0);
        say(x, state == 1 ? "b;" : "a;").allege(0);
        if (state > 0) {
            x.bill(0, 0);
        }
        if (state > 2) {
            x.draw(0, 0);
            say(x, state == 4 ? "" : "a;").hear(0);
        }
        if (state == 7) {
            x.keep(0);
        } else if (state > 4) {
            x.judge(0);
        }
        if (state == 6) {
            x.benefit(0);
        }
        if (state > 7) {
            x.pardon(0, 0, 0);
        }
        if (state == 9) {
            x.seen(0, 0);
        }
        if (x.matter(0, 7) != state) {
            throw new IllegalStateException("not brought to state " + state);
        }
        return x;
    }
}
