import java.util.Arrays;

/** A clerk of assize's cart. What each call promises stands in DOC.md, by number. */
public final class AssizeRide {
    public static final int NONE = -1;
    public static final int RANGE = -2;
    public static final int FULL = -3;
    public static final int STATE = -4;

    private static final int ABSENT = -9;
    private static final int SHIRES = 6;
    private static final int ALL_SHIRES = 63;
    private static final int LAST_HUNDRED = 9;
    private static final int LAST_DAY = 399;
    private static final int MOST_POUNDS = 9999;
    private static final int MOST_HOURS = 10;
    // The document's life of an object: rows that only grow have room for that many calls.
    private static final int MOST_CALLS = 512;

    private final Tape tape = new Tape();
    private final People people = new People();
    private final Law statutes = new Law();
    private final ActReader reader = new ActReader(tape, statutes);
    private final Docket docket = new Docket(statutes, people);
    private final Gaols gaols = new Gaols();
    private final DayOrder sitting = new DayOrder();
    private final Circuit circuit = new Circuit();
    private final Rolls rolls = new Rolls();
    private final Row facts = new Row(Row.MOST_FACTS);
    private int today = 0;
    private int weighedMet = NONE;
    private int weighedLack = NONE;

    public AssizeRide() {
    }

    private static boolean within(int x, int least, int most) {
        return x >= least && x <= most;
    }

    private static boolean isShire(int s) {
        return within(s, 0, SHIRES - 1);
    }

    private static boolean isDay(int day) {
        return within(day, 0, LAST_DAY);
    }

    // ---- the tape

    public int feed(int a, int b, int c, int d, int e) {
        if (!tape.hasRoom(Tape.BYTES_A_FEED)) {
            return FULL;
        }
        tape.addInt(a);
        tape.addInt(b);
        tape.addInt(c);
        tape.addInt(d);
        tape.addInt(e);
        return tape.length;
    }

    public int end(int n) {
        if (!within(n, 0, tape.length)) {
            return NONE;
        }
        tape.length = n;
        return n;
    }

    // ---- land, people

    public int road(int s, int o, int days) {
        if (!isShire(s) || !isShire(o) || s == o || days != NONE && !within(days, 1, 9)) {
            return RANGE;
        }
        return circuit.setRoad(s, o, days);
    }

    public int pass(int n) {
        if (!within(n, 1, 100) || today + n > LAST_DAY) {
            return RANGE;
        }
        today += n;
        gaols.runOut(today, people);
        return today;
    }

    public int person(int shire, int hundred) {
        if (!isShire(shire) || !within(hundred, 0, LAST_HUNDRED)) {
            return RANGE;
        }
        return people.come(shire, hundred);
    }

    public int land(int p, int pounds, int from) {
        if (!people.has(p) || !within(pounds, 0, MOST_POUNDS) || !isDay(from)) {
            return RANGE;
        }
        return people.tell(People.LAND, p, pounds, from, today) ? people.tellings : FULL;
    }

    public int dead(int p, int from) {
        if (!people.has(p) || !isDay(from)) {
            return RANGE;
        }
        return people.tell(People.DEAD, p, 0, from, today) ? people.tellings : FULL;
    }

    public int kin(int p, int q, int degree) {
        if (!people.has(p) || !people.has(q) || p == q || !within(degree, 0, 4)) {
            return RANGE;
        }
        if (!people.tell(People.KIN, People.pair(p, q), degree, today, today)) {
            return FULL;
        }
        return docket.kinFoundLater(p, q, degree, today);
    }

    public int landOn(int p, int day, int known) {
        if (!people.has(p) || !isDay(day) || !isDay(known)) {
            return RANGE;
        }
        return people.landOf(p, day, known);
    }

    public int deadOn(int p, int day, int known) {
        if (!people.has(p) || !isDay(day) || !isDay(known)) {
            return RANGE;
        }
        return people.isDead(p, day, known) ? 1 : 0;
    }

    public int kinOn(int p, int q, int known) {
        if (!people.has(p) || !people.has(q) || p == q || !isDay(known)) {
            return RANGE;
        }
        return people.kinOf(p, q, known);
    }

    // ---- law

    public int act(int day, int shires) {
        tape.takeTokens();
        if (!isDay(day) || !within(shires, 1, ALL_SHIRES) || day < statutes.latestDay()) {
            return RANGE;
        }
        if (!reader.readText()) {
            statutes.dropDraft();
            return NONE;
        }
        return statutes.enact(day, shires);
    }

    public int fault(int what) {
        if (what == 0) {
            return reader.faultKind;
        }
        return what == 1 ? reader.faultPlace : NONE;
    }

    public int told(int a, int what) {
        return statutes.tellOfAct(a, what);
    }

    public int law(int kind, int day, int shire) {
        long deed = takeDeed(kind);
        int refusal = refuseLaw(kind, deed, day, shire);
        return refusal != 0 ? refusal : statutes.actInForce(kind, deed, day, shire);
    }

    public int tells(int kind, int day, int shire) {
        long deed = takeDeed(kind);
        int refusal = refuseLaw(kind, deed, day, shire);
        return refusal != 0 ? refusal : statutes.numberInForce(kind, deed, day, shire);
    }

    public int quarrel(int kind, int day, int shire) {
        long deed = takeDeed(kind);
        int refusal = refuseLaw(kind, deed, day, shire);
        return refusal != 0 ? refusal : statutes.quarrelling(kind, deed, day, shire);
    }

    /** The tape's word; none where the KIND goes without a deed, whatever was fed. */
    private long takeDeed(int kind) {
        tape.takeTokens();
        return kind < Law.JURY ? tape.soleWord() : Tape.NO_WORD;
    }

    /** The code that answers a question about the law; 0 when it may be asked. */
    private static int refuseLaw(int kind, long deed, int day, int shire) {
        if (!within(kind, Law.DEED, Law.VOID) || !isDay(day) || !isShire(shire)) {
            return RANGE;
        }
        return kind < Law.JURY && deed == Tape.NO_WORD ? STATE : 0;
    }

    public int weigh(int day, int shire) {
        tape.takeTokens();
        if (!isDay(day) || !isShire(shire)) {
            return RANGE;
        }
        if (tape.kindAt(0) != Tape.WORD || tape.kindAt(1) != ';' || !facts.readFacts(tape, 2)) {
            return NONE;
        }
        int clause = statutes.clauseInForce(Law.DEED, tape.valueAt(0), day, shire);
        if (clause == NONE) {
            return STATE;
        }
        weighedMet = statutes.testsMet(clause, facts);
        weighedLack = statutes.lacking(clause, weighedMet);
        return weighedLack == NONE ? 1 : 0;
    }

    public int why(int what) {
        if (what == 0) {
            return weighedMet;
        }
        return what == 1 ? weighedLack : NONE;
    }

    // ---- matters

    public int crown(int p, int shire, int hundred, int day) {
        tape.takeTokens();
        if (!people.has(p) || !isDeedPlace(shire, hundred, day)) {
            return RANGE;
        }
        return beginMatter(NONE, p, shire, hundred, day, 0);
    }

    public int plea(int p, int q, int shire, int hundred, int day, int pounds) {
        tape.takeTokens();
        if (!people.has(p) || !people.has(q) || p == q || !within(pounds, 1, MOST_POUNDS)
                || !isDeedPlace(shire, hundred, day)) {
            return RANGE;
        }
        return beginMatter(p, q, shire, hundred, day, pounds);
    }

    private boolean isDeedPlace(int shire, int hundred, int day) {
        return isShire(shire) && within(hundred, 0, LAST_HUNDRED) && within(day, 0, today);
    }

    private int beginMatter(int suer, int accused, int shire, int hundred, int day, int pounds) {
        long deed = tape.soleWord();
        if (deed == Tape.NO_WORD) {
            return NONE;
        }
        if (docket.isFull()) {
            return FULL;
        }
        Matter x = new Matter(deed, suer, accused, shire, hundred, day, pounds);
        return docket.begin(x, today);
    }

    public int words(int m) {
        tape.takeTokens();
        Matter x = docket.findCrown(m);
        if (x == null) {
            return RANGE;
        }
        if (x.state != Matter.BEGUN) {
            return STATE;
        }
        return x.indicted.readWords(tape) ? x.indicted.size : NONE;
    }

    public int allege(int m) {
        tape.takeTokens();
        Matter x = docket.findCrown(m);
        if (x == null) {
            return RANGE;
        }
        if (x.state != Matter.BEGUN) {
            return STATE;
        }
        if (!facts.readFacts(tape, 0)) {
            return NONE;
        }
        x.alleged.copyFrom(facts);
        return x.alleged.size;
    }

    public int bad(int m) {
        Matter x = docket.findCrown(m);
        return x == null ? RANGE : docket.indictmentFault(x);
    }

    public int mend(int m) {
        Matter x = docket.findCrown(m);
        if (x == null) {
            return RANGE;
        }
        if (x.state != Matter.BEGUN || !x.indicted.told) {
            return STATE;
        }
        return docket.lawOf(x, Law.MEND) == 0 ? NONE : docket.weaveIn(x);
    }

    public int bill(int m, int votes) {
        Matter x = docket.findCrown(m);
        if (x == null || !within(votes, 0, 23)) {
            return RANGE;
        }
        if (x.state != Matter.BEGUN) {
            return STATE;
        }
        boolean isTrue = votes >= docket.lawOf(x, Law.BILL) && docket.indictmentFault(x) == 0;
        return docket.change(m, isTrue ? Matter.TRUE_BILL : Matter.NO_BILL, today);
    }

    public int matter(int m, int what) {
        Matter x = docket.find(m);
        return x == null ? ABSENT : x.tellOf(what);
    }

    // ---- juries

    public int witness(int m, int p) {
        Matter x = docket.find(m);
        if (x == null || !people.has(p)) {
            return RANGE;
        }
        if (!x.isOpen() || x.involves(p)) {
            return STATE;
        }
        return x.witnesses.add(p, 0) ? x.witnesses.size : FULL;
    }

    public int may(int m, int p) {
        Matter x = docket.find(m);
        if (x == null || !people.has(p)) {
            return RANGE;
        }
        return docket.mayServe(x, p, today, today) ? 1 : 0;
    }

    public int list(int m) {
        Matter x = docket.find(m);
        if (x == null) {
            return RANGE;
        }
        return x.wantsJurors() ? docket.findDrawable(x, today) : STATE;
    }

    public int draw(int m, int number) {
        Matter x = docket.find(m);
        if (x == null) {
            return RANGE;
        }
        if (!x.wantsJurors()) {
            return STATE;
        }
        if (x.jurors.size >= docket.lawOf(x, Law.JURY)) {
            return FULL;
        }
        if (!within(number, 0, docket.findDrawable(x, today) - 1)) {
            return RANGE;
        }
        int p = docket.drawableAt(number);
        x.jurors.add(p, 0);
        return p;
    }

    public int challenge(int m, int p) {
        Matter x = docket.find(m);
        int i = x == null ? NONE : x.jurors.find(p);
        if (x == null || i == NONE) {
            return RANGE;
        }
        if (!x.wantsJurors() || x.challenged.size >= docket.lawOf(x, Law.CHALLENGE)) {
            return STATE;
        }
        x.jurors.removeAt(i);
        x.challenged.add(p, 0);
        return x.challenged.size;
    }

    public int full(int m) {
        Matter x = docket.find(m);
        if (x == null) {
            return RANGE;
        }
        return docket.isJuryFull(x) ? 1 : 0;
    }

    public int lacks(int m) {
        Matter x = docket.find(m);
        return x == null ? RANGE : docket.lacksOfHundred(x);
    }

    public int juror(int m, int i) {
        Matter x = docket.find(m);
        return x == null ? NONE : (int) x.jurors.nameAt(i);
    }

    public int hear(int m) {
        tape.takeTokens();
        Matter x = docket.find(m);
        if (x == null) {
            return RANGE;
        }
        if (!x.wantsJurors() || !docket.isJuryFull(x)) {
            return STATE;
        }
        if (!facts.readFacts(tape, 0)) {
            return NONE;
        }
        x.found.copyFrom(facts);
        x.heard = today;
        return docket.change(m, docket.verdict(x), today);
    }

    // ---- judgements

    public int judge(int m) {
        Matter x = docket.findCrown(m);
        if (x == null) {
            return RANGE;
        }
        if (x.state != Matter.GUILTY) {
            return STATE;
        }
        docket.sentence(m, x, today);
        return x.toDie ? 1 : 0;
    }

    public int benefit(int m) {
        Matter x = docket.findCrown(m);
        if (x == null) {
            return RANGE;
        }
        if (!x.isJudgedToDie() || docket.hadBenefit(x.accused) || docket.lawOf(x, Law.CLERGY) == 0) {
            return STATE;
        }
        docket.giveBenefit(m, x, today);
        return 1;
    }

    public int keep(int m) {
        Matter x = docket.findCrown(m);
        if (x == null) {
            return RANGE;
        }
        if (x.state != Matter.GUILTY || docket.lawOf(x, Law.KEEP) == 0) {
            return STATE;
        }
        docket.change(m, Matter.KEPT, today);
        return 1;
    }

    public int settle(boolean as) {
        tape.takeTokens();
        long deed = tape.soleWord();
        return deed == Tape.NO_WORD ? NONE : docket.settleDeed(deed, as, today);
    }

    public int pardon(int m, int shire, int to) {
        Matter x = docket.findCrown(m);
        if (x == null || !isShire(shire) || !within(to, today, LAST_DAY)) {
            return RANGE;
        }
        if (!x.isJudgedToDie()) {
            return STATE;
        }
        x.toDie = false;
        x.banShire = shire;
        x.banTo = to;
        docket.change(m, Matter.PARDONED, today);
        return 1;
    }

    public int undo(int m) {
        Matter x = docket.find(m);
        if (x == null) {
            return RANGE;
        }
        if (x.state != Matter.JUDGED && x.state != Matter.BENEFIT && x.state != Matter.NOT_GUILTY) {
            return STATE;
        }
        return docket.beginAgain(m, x, today);
    }

    // ---- gaols, bonds

    public int commit(int p, int shire) {
        if (!people.has(p) || !isShire(shire)) {
            return RANGE;
        }
        if (gaols.gaolOf(p) != NONE) {
            return STATE;
        }
        gaols.takeIn(p, shire, today);
        return gaols.countIn(shire);
    }

    public int bail(int p) {
        if (!people.has(p)) {
            return RANGE;
        }
        int shire = gaols.gaolOf(p);
        if (shire == NONE) {
            return STATE;
        }
        gaols.letOut(p, today);
        return shire;
    }

    public int deliver(int shire) {
        return isShire(shire) ? gaols.empty(shire, docket, today) : RANGE;
    }

    public int left(int i, int what) {
        return gaols.tellOfLeft(i, what);
    }

    public int prisoner(int p, int what) {
        if (!people.has(p) || !within(what, 0, 1)) {
            return RANGE;
        }
        return what == 0 ? gaols.gaolOf(p) : gaols.daysWaited(p, today);
    }

    public int bond(int p, int shire, int from, int to, int pounds) {
        if (!people.has(p) || !isShire(shire) || !isDay(from) || !isDay(to) || to < from
                || to < today || !within(pounds, 1, MOST_POUNDS)) {
            return RANGE;
        }
        return gaols.bind(p, shire, from, to, pounds);
    }

    public int seen(int p, int shire) {
        if (!people.has(p) || !isShire(shire)) {
            return RANGE;
        }
        return gaols.meetBonds(p, shire, today) + 100 * docket.breakPardons(p, shire, today);
    }

    public int bonded(int b, int what) {
        return gaols.tellOfBond(b, what);
    }

    // ---- the order of a day

    public int hours(int m, int n) {
        Matter x = docket.find(m);
        if (x == null || !within(n, 1, 4)) {
            return RANGE;
        }
        int before = x.hoursTaken;
        x.hoursTaken = n;
        return before;
    }

    public int order() {
        sitting.beginAnew();
        return 1;
    }

    public int put(int m) {
        if (docket.find(m) == null) {
            return RANGE;
        }
        return sitting.has(m) ? STATE : sitting.insert(m);
    }

    public int best(int hours) {
        return within(hours, 1, MOST_HOURS) ? sitting.layBest(hours, docket) : RANGE;
    }

    public int laid(int i) {
        return sitting.placeOf(i);
    }

    public int bound(int hours) {
        return within(hours, 1, MOST_HOURS) ? sitting.mostByHours(hours, docket) : RANGE;
    }

    public int prove(int hours) {
        int bytes = tape.takeBytes();
        return within(hours, 1, MOST_HOURS) ? sitting.laidRightly(tape, bytes, hours, docket) : RANGE;
    }

    // ---- rides

    public int far(int s, int o) {
        return isShire(s) && isShire(o) ? circuit.daysBetween(s, o) : RANGE;
    }

    public int ride(int from, int day, int set, int stay) {
        if (!isShire(from) || !isDay(day) || !within(set, 1, ALL_SHIRES) || !within(stay, 1, 5)) {
            return RANGE;
        }
        return circuit.plan(from, day, set, stay, gaols);
    }

    public int late(int k, int days) {
        if (circuit.size == 0) {
            return STATE;
        }
        if (!within(k, 1, circuit.size) || !within(days, 1, 50)) {
            return RANGE;
        }
        return circuit.delay(k, days, gaols);
    }

    public int rode(int i, int what) {
        return circuit.tellOfRide(i, what);
    }

    // ---- rolls

    public int roll(int r) {
        int bytes = tape.takeBytes();
        return within(r, 0, 2) ? rolls.write(r, tape, bytes) : RANGE;
    }

    public int join() {
        return rolls.lay();
    }

    public int joined(int i, int what) {
        return rolls.tellOfRow(i, what);
    }

    // ---- what was

    public int putRight(int m, int state, int from) {
        if (docket.find(m) == null || !within(state, Matter.BEGUN, Matter.BROKEN)
                || !within(from, 0, today)) {
            return RANGE;
        }
        return docket.setRight(m, state, from, today);
    }

    public int stateOn(int m, int day, int known) {
        if (docket.find(m) == null || !isDay(day) || !isDay(known)) {
            return RANGE;
        }
        return docket.stateAsKnown(m, day, known);
    }

    public int check(int m) {
        Matter x = docket.find(m);
        if (x == null) {
            return RANGE;
        }
        if (!x.canBeChecked()) {
            return STATE;
        }
        if (!x.isPlea() && docket.indictmentFault(x) != 0) {
            return 1;
        }
        if (docket.hasBarredJuror(x, today)) {
            return 2;
        }
        // Every other STATE that can be checked came of a jury that found the deed made.
        return docket.isMade(x) == (x.state == Matter.NOT_GUILTY) ? 3 : 0;
    }

    public int count(int what) {
        if (within(what, 10, 10 + SHIRES - 1)) {
            return gaols.countIn(what - 10);
        }
        if (within(what, 20, 20 + Matter.BROKEN)) {
            return docket.countOfState(what - 20);
        }
        switch (what) {
            case 0:
                return today;
            case 1:
                return people.size;
            case 2:
                return people.tellings;
            case 3:
                return statutes.acts;
            case 4:
                return docket.size;
            case 5:
                return gaols.bonds;
            case 6:
                return docket.fines + gaols.forfeited;
            case 7:
                return tape.length;
            case 8:
                return sitting.size;
            default:
                return NONE;
        }
    }

    /** The bytes that were fed, and the TOKENS of the text that was taken off last. */
    private static final class Tape {
        static final int MOST_BYTES = 1200;
        static final int BYTES_A_FEED = 20;
        static final int MOST_LETTERS = 12;
        static final int MOST_FIGURES = 4;
        static final long NO_WORD = 0;
        // A sign's KIND of TOKEN is its own byte: the others stay below all signs.
        static final int END = 0;
        static final int WORD = 1;
        static final int NUMBER = 2;
        static final int WRONG = 3;
        static final int BLANK = 4;

        final int[] bytes = new int[MOST_BYTES];
        int length = 0;
        private final int[] kinds = new int[MOST_BYTES];
        private final int[] places = new int[MOST_BYTES];
        private final long[] values = new long[MOST_BYTES];
        private int tokens = 0;
        private int textLength = 0;

        boolean hasRoom(int n) {
            return length + n <= MOST_BYTES;
        }

        void addInt(int four) {
            for (int shift = 24; shift >= 0 && length < MOST_BYTES; shift -= 8) {
                bytes[length] = four >>> shift & 255;
                length++;
            }
        }

        /** Empties the tape: how many bytes were on it (they can still be looked at). */
        int takeBytes() {
            int n = length;
            length = 0;
            return n;
        }

        void takeTokens() {
            textLength = takeBytes();
            tokens = 0;
            int before = BLANK;
            for (int i = 0; i < textLength; i++) {
                int kind = kindOfByte(bytes[i]);
                if (kind == before && (kind == WORD || kind == NUMBER)) {
                    growToken(i);
                } else if (kind != BLANK) {
                    kinds[tokens] = kind;
                    places[tokens] = i;
                    values[tokens] = valueOfByte(bytes[i]);
                    tokens++;
                }
                before = kind;
            }
        }

        private static int kindOfByte(int b) {
            if (within(b, 'a', 'z')) {
                return WORD;
            }
            if (within(b, '0', '9')) {
                return NUMBER;
            }
            if (b == 32 || b == 10) {
                return BLANK;
            }
            return b == ';' || b == '=' || b == '(' || b == ')' || b == '+' ? b : WRONG;
        }

        private static int valueOfByte(int b) {
            return within(b, 'a', 'z') ? b - 'a' + 1 : b - '0';
        }

        /** Twelve letters of five bits each fit a long, so that a WORD is a number of its own. */
        private void growToken(int i) {
            int last = tokens - 1;
            if (last < 0 || kinds[last] == WRONG) {
                return;
            }
            int signs = i - places[last] + 1;
            if (signs > (kinds[last] == WORD ? MOST_LETTERS : MOST_FIGURES)) {
                kinds[last] = WRONG;
                return;
            }
            values[last] = values[last] * (kinds[last] == WORD ? 32 : 10) + valueOfByte(bytes[i]);
        }

        int kindAt(int i) {
            return i >= 0 && i < tokens ? kinds[i] : END;
        }

        int placeAt(int i) {
            return i >= 0 && i < tokens ? places[i] : textLength;
        }

        long valueAt(int i) {
            return i >= 0 && i < tokens ? values[i] : 0;
        }

        long soleWord() {
            return tokens == 1 && kinds[0] == WORD ? values[0] : NO_WORD;
        }
    }

    /** Names in their order, each with a value: FACTS, WORDS, or PEOPLE by their numbers. */
    private static final class Row {
        static final int MOST_FACTS = 20;
        static final int MOST_TOLD_WORDS = 20;

        private final long[] names;
        private final int[] values;
        int size = 0;
        boolean told = false;

        Row(int room) {
            names = new long[Math.max(room, 0)];
            values = new int[Math.max(room, 0)];
        }

        boolean add(long name, int value) {
            if (size >= names.length) {
                return false;
            }
            names[size] = name;
            values[size] = value;
            size++;
            return true;
        }

        long nameAt(int i) {
            return within(i, 0, size - 1) ? names[i] : NONE;
        }

        int find(long name) {
            for (int i = 0; i < size; i++) {
                if (names[i] == name) {
                    return i;
                }
            }
            return NONE;
        }

        boolean has(long name) {
            return find(name) != NONE;
        }

        int valueOf(long name) {
            int i = find(name);
            return i == NONE ? 0 : values[i];
        }

        void removeAt(int at) {
            if (!within(at, 0, size - 1)) {
                return;
            }
            for (int i = at + 1; i < size; i++) {
                names[i - 1] = names[i];
                values[i - 1] = values[i];
            }
            size--;
        }

        void clear() {
            size = 0;
            told = false;
        }

        void copyFrom(Row other) {
            clear();
            for (int i = 0; i < other.size; i++) {
                add(other.names[i], other.values[i]);
            }
            told = other.told;
        }

        /** Reads {W ["=" N] ";"} from a token on; what it held is gone, also when it is no row. */
        boolean readFacts(Tape tape, int from) {
            clear();
            int at = from;
            for (int n = 0; n <= MOST_FACTS; n++) {
                if (tape.kindAt(at) == Tape.END) {
                    told = true;
                    return true;
                }
                long name = tape.valueAt(at);
                if (n == MOST_FACTS || tape.kindAt(at) != Tape.WORD || has(name)) {
                    return false;
                }
                boolean hasNumber = tape.kindAt(at + 1) == '=';
                if (hasNumber && tape.kindAt(at + 2) != Tape.NUMBER) {
                    return false;
                }
                add(name, hasNumber ? (int) tape.valueAt(at + 2) : 1);
                at += hasNumber ? 3 : 1;
                if (tape.kindAt(at) != ';') {
                    return false;
                }
                at++;
            }
            return false;
        }

        /** Reads 1 .. 20 WORDS; what it held stays when the tape has no such row. */
        boolean readWords(Tape tape) {
            int n = 0;
            while (n <= MOST_TOLD_WORDS && tape.kindAt(n) == Tape.WORD) {
                n++;
            }
            if (!within(n, 1, MOST_TOLD_WORDS) || tape.kindAt(n) != Tape.END) {
                return false;
            }
            clear();
            for (int i = 0; i < n; i++) {
                add(tape.valueAt(i), 0);
            }
            told = true;
            return true;
        }
    }

    /** PEOPLE and what was told of them, in the order in which it was told. */
    private static final class People {
        static final int MOST = 120;
        static final int MOST_TELLINGS = 300;
        static final int LAND = 0;
        static final int DEAD = 1;
        static final int KIN = 2;

        int size = 0;
        int tellings = 0;
        private final int[] shires = new int[MOST];
        private final int[] hundreds = new int[MOST];
        private final int[] kinds = new int[MOST_TELLINGS];
        private final int[] whose = new int[MOST_TELLINGS];
        private final int[] amounts = new int[MOST_TELLINGS];
        private final int[] firstDays = new int[MOST_TELLINGS];
        private final int[] knownFrom = new int[MOST_TELLINGS];

        boolean has(int p) {
            return within(p, 0, size - 1);
        }

        int come(int shire, int hundred) {
            if (size >= MOST) {
                return FULL;
            }
            shires[size] = shire;
            hundreds[size] = hundred;
            size++;
            return size - 1;
        }

        int shireOf(int p) {
            return has(p) ? shires[p] : NONE;
        }

        int hundredOf(int p) {
            return has(p) ? hundreds[p] : NONE;
        }

        /** One number for two PEOPLE, whichever is named first. */
        static int pair(int p, int q) {
            return Math.min(p, q) * MOST + Math.max(p, q);
        }

        boolean tell(int kind, int who, int amount, int from, int today) {
            if (tellings >= MOST_TELLINGS) {
                return false;
            }
            kinds[tellings] = kind;
            whose[tellings] = who;
            amounts[tellings] = amount;
            firstDays[tellings] = from;
            knownFrom[tellings] = today;
            tellings++;
            return true;
        }

        private boolean isOf(int i, int kind, int who, int known) {
            return kinds[i] == kind && whose[i] == who && knownFrom[i] <= known;
        }

        int landOf(int p, int day, int known) {
            int pounds = 0;
            int latest = NONE;
            for (int i = 0; i < tellings; i++) {
                if (isOf(i, LAND, p, known) && within(firstDays[i], latest, day)) {
                    latest = firstDays[i];
                    pounds = amounts[i];
                }
            }
            return pounds;
        }

        boolean isDead(int p, int day, int known) {
            for (int i = 0; i < tellings; i++) {
                if (isOf(i, DEAD, p, known) && firstDays[i] <= day) {
                    return true;
                }
            }
            return false;
        }

        int kinOf(int p, int q, int known) {
            int two = pair(p, q);
            for (int i = tellings - 1; i >= 0; i--) {
                if (isOf(i, KIN, two, known)) {
                    return amounts[i];
                }
            }
            return 0;
        }
    }

    /** The ACTS, clause behind clause; the clauses of an ACT that is being read stand behind them. */
    private static final class Law {
        static final int MOST_ACTS = 30;
        static final int MOST_CLAUSES = 40;
        // One ACT too many is still read, because its FAULTS are told ahead of FULL.
        static final int CLAUSE_ROOM = (MOST_ACTS + 1) * MOST_CLAUSES;
        // No text makes more items than it has bytes: a TERM makes one, and a second behind the last of a
        // TEST, for which the two bytes or more of "or" pay (of the first TEST those of "deed"); all else
        // makes fewer items than bytes. What a FAULT drops is free again, but its bytes were fed.
        static final int ITEM_ROOM = MOST_CALLS * Tape.BYTES_A_FEED;
        static final int DEED = 0;
        static final int WORDS = 1;
        static final int DEATH = 2;
        static final int FINE = 3;
        static final int CLERGY = 4;
        static final int KEEP = 5;
        static final int MEND = 6;
        static final int JURY = 7;
        static final int LAND = 8;
        static final int KIN = 9;
        static final int CHALLENGE = 10;
        static final int HUNDRED = 11;
        static final int BILL = 12;
        static final int VOID = 13;
        static final int STRIKE = 14;
        static final int[] WITHOUT = {NONE, 0, 0, 0, 0, 0, 0, 6, 20, 2, 2, 1, 12, 0};
        static final int NO_TEST = 99;
        // Items of a deed: a WORD is above 0, an N is -1 - N, and these are below every N.
        static final long LEAST_NUMBER = -20000;
        static final long ABOVE = -20001;
        static final long BELOW = -20002;
        static final long IS = -20003;
        static final long TEST = -20004;
        static final long NOT = -20005;
        static final long AND = -20006;
        static final long OR = -20007;

        int acts = 0;
        private final int[] firstDays = new int[MOST_ACTS];
        private final int[] places = new int[MOST_ACTS];
        private final int[] firstClauses = new int[MOST_ACTS + 1];
        private int clauses = 0;
        private final int[] kinds = new int[CLAUSE_ROOM];
        private final long[] deeds = new long[CLAUSE_ROOM];
        private final int[] numbers = new int[CLAUSE_ROOM];
        private final int[] owners = new int[CLAUSE_ROOM];
        private final int[] firstItems = new int[CLAUSE_ROOM + 1];
        private int items = 0;
        private final long[] rowOfItems = new long[ITEM_ROOM];
        private boolean overrun = false;

        // -- writing

        int latestDay() {
            return acts == 0 ? 0 : firstDays[acts - 1];
        }

        void dropDraft() {
            clauses = firstClauses[acts];
            items = firstItems[clauses];
            overrun = false;
        }

        int draftClauses() {
            return clauses - firstClauses[acts];
        }

        boolean draftHas(int kind, long deed) {
            return clauseAmong(firstClauses[acts], clauses, kind, deed) != NONE;
        }

        void draftItem(long item) {
            if (items >= ITEM_ROOM) {
                overrun = true;
                return;
            }
            rowOfItems[items] = item;
            items++;
        }

        void draftClause(int kind, long deed, int number) {
            if (clauses >= CLAUSE_ROOM) {
                overrun = true;
                return;
            }
            kinds[clauses] = kind;
            deeds[clauses] = deed;
            numbers[clauses] = number;
            owners[clauses] = acts;
            clauses++;
            firstItems[clauses] = items;
        }

        int enact(int day, int shires) {
            if (acts >= MOST_ACTS || overrun) {
                dropDraft();
                return FULL;
            }
            firstDays[acts] = day;
            places[acts] = shires;
            acts++;
            firstClauses[acts] = clauses;
            return acts - 1;
        }

        // -- reading

        int tellOfAct(int a, int what) {
            if (!within(a, 0, acts - 1)) {
                return NONE;
            }
            switch (what) {
                case 0:
                    return firstDays[a];
                case 1:
                    return places[a];
                case 2:
                    return firstClauses[a + 1] - firstClauses[a];
                default:
                    return NONE;
            }
        }

        private int clauseAmong(int from, int to, int kind, long deed) {
            for (int c = from; c < to; c++) {
                if (kinds[c] == kind && deeds[c] == deed) {
                    return c;
                }
            }
            return NONE;
        }

        /** The ACTS that are begun on a day and hold in a SHIRE, as bits. */
        private int actsBegun(int day, int shire) {
            int bits = 0;
            for (int a = 0; a < acts; a++) {
                if (firstDays[a] <= day && (places[a] >> shire & 1) == 1) {
                    bits |= 1 << a;
                }
            }
            return bits;
        }

        /** A strike counts though it is struck itself: the document asks only that its ACT has it. */
        private boolean isStruck(int a, long deed, int begun) {
            for (int c = firstClauses[a + 1]; c < firstClauses[acts]; c++) {
                if (kinds[c] == STRIKE && numbers[c] == a
                        && (deeds[c] == Tape.NO_WORD || deeds[c] == deed)
                        && (begun >> owners[c] & 1) == 1) {
                    return true;
                }
            }
            return false;
        }

        /** The clause of one ACT that HOLDS. */
        private int clauseHolding(int a, int kind, long deed, int begun) {
            if ((begun >> a & 1) == 0) {
                return NONE;
            }
            int c = clauseAmong(firstClauses[a], firstClauses[a + 1], kind, deed);
            return c == NONE || isStruck(a, deed, begun) ? NONE : c;
        }

        int clauseInForce(int kind, long deed, int day, int shire) {
            int begun = actsBegun(day, shire);
            for (int a = acts - 1; a >= 0; a--) {
                int c = clauseHolding(a, kind, deed, begun);
                if (c != NONE) {
                    return c;
                }
            }
            return NONE;
        }

        int actInForce(int kind, long deed, int day, int shire) {
            int c = clauseInForce(kind, deed, day, shire);
            return c == NONE ? NONE : owners[c];
        }

        int numberInForce(int kind, long deed, int day, int shire) {
            int c = clauseInForce(kind, deed, day, shire);
            if (c != NONE) {
                return numbers[c];
            }
            return kind >= DEED && kind <= VOID ? WITHOUT[kind] : NONE;
        }

        int quarrelling(int kind, long deed, int day, int shire) {
            int begun = actsBegun(day, shire);
            int latest = actInForce(kind, deed, day, shire);
            int bits = 0;
            for (int a = 0; a <= latest; a++) {
                if (firstDays[a] == firstDays[latest] && clauseHolding(a, kind, deed, begun) != NONE) {
                    bits |= 1 << a;
                }
            }
            return Integer.bitCount(bits) > 1 ? bits : 0;
        }

        // -- words and deeds

        int itemsIn(int c) {
            return c >= 0 && c < clauses ? firstItems[c + 1] - firstItems[c] : 0;
        }

        long itemAt(int c, int i) {
            return i >= 0 && i < itemsIn(c) ? rowOfItems[firstItems[c] + i] : Tape.NO_WORD;
        }

        /** The TESTS of a deed that hold, as bits. */
        int testsMet(int c, Row facts) {
            int bits = 0;
            int test = 0;
            int ahead = 0;
            int sum = 0;
            long relation = TEST;
            for (int i = 0; i < itemsIn(c); i++) {
                long item = itemAt(c, i);
                if (item > 0) {
                    sum += facts.valueOf(item);
                } else if (item > LEAST_NUMBER) {
                    sum += (int) (-1 - item);
                } else if (item >= IS) {
                    relation = item;
                    ahead = sum;
                    sum = 0;
                } else if (item == TEST) {
                    bits |= holds(relation, ahead, sum) ? 1 << test : 0;
                    test++;
                    relation = TEST;
                    sum = 0;
                }
            }
            return bits;
        }

        private static boolean holds(long relation, int ahead, int behind) {
            if (relation == ABOVE) {
                return ahead > behind;
            }
            if (relation == BELOW) {
                return ahead < behind;
            }
            return relation == IS ? ahead == behind : behind > 0;
        }

        /** Whether a deed's condition holds; values that wait are bits, the latest one lowest. */
        private boolean holdsWith(int c, int met) {
            int waiting = 0;
            int test = 0;
            for (int i = 0; i < itemsIn(c); i++) {
                long item = itemAt(c, i);
                if (item == TEST) {
                    waiting = waiting << 1 | met >> test & 1;
                    test++;
                } else if (item == NOT) {
                    waiting ^= 1;
                } else if (item == AND) {
                    waiting = waiting >> 1 & (waiting | ~1);
                } else if (item == OR) {
                    waiting = waiting >> 1 | waiting & 1;
                }
            }
            return (waiting & 1) == 1;
        }

        /** What LACKS; NONE if the deed is MADE. */
        int lacking(int c, int met) {
            if (holdsWith(c, met)) {
                return NONE;
            }
            int tests = c >= 0 && c < clauses ? numbers[c] : 0;
            for (int test = 0; test < tests; test++) {
                if (holdsWith(c, met ^ 1 << test)) {
                    return test;
                }
            }
            return NO_TEST;
        }
    }

    /** Reads the text of an ACT into the law's draft, TOKEN by TOKEN up to the first FAULT. */
    private static final class ActReader {
        static final int SYNTAX = 1;
        static final int BOUNDS = 2;
        static final int TWICE = 3;
        static final int ROOM = 4;
        static final int MOST_TESTS = 20;
        static final int MOST_TERMS = 4;
        static final int MOST_OPEN = 6;
        static final int MOST_WORDS = 8;
        static final String CLAUSE_WORDS =
                "deed words death fine clergy keep mend jury land kin challenge hundred bill void strike refuse stand ";
        static final int REFUSE = 15;
        static final int STAND = 16;
        // The least and most N by KIND; only those that have an N are looked at.
        static final int[] LEAST = {0, 0, 0, 0, 0, 0, 0, 1, 0, 0, 0, 0, 0};
        static final int[] MOST = {0, 0, 0, 9999, 0, 0, 0, 12, 9999, 4, 12, 12, 23};
        static final String JOINING_WORDS = "or and not unless above below is ";
        static final int OR = 0;
        static final int AND = 1;
        static final int NOT = 2;
        static final int UNLESS = 3;
        static final int ABOVE = 4;
        static final int BELOW = 5;
        static final int IS = 6;
        // Stands among the joining words that wait for what is behind them.
        static final int BRACKET = 7;

        int faultKind = 0;
        int faultPlace = NONE;
        private final Tape tape;
        private final Law law;
        private final long[] clauseWords;
        private final long[] joiningWords;
        // An open bracket leaves at most "or", "and", "not" and itself waiting.
        private final int[] waiting = new int[4 * (MOST_OPEN + 1)];
        private int waits = 0;
        private int open = 0;
        private int tests = 0;
        private int at = 0;
        private int kind = Tape.END;
        private long word = Tape.NO_WORD;
        private int joiner = NONE;
        private int clauseWord = NONE;
        private int clause = NONE;
        private long deed = Tape.NO_WORD;

        ActReader(Tape tape, Law law) {
            this.tape = tape;
            this.law = law;
            clauseWords = spell(CLAUSE_WORDS, STAND + 1);
            joiningWords = spell(JOINING_WORDS, IS + 1);
        }

        /** The WORDS of a text, each with a blank behind it, as the tape numbers them. */
        private static long[] spell(String text, int size) {
            long[] words = new long[Math.max(size, 0)];
            int n = 0;
            for (int i = 0; i < text.length() && n < words.length; i++) {
                char c = text.charAt(i);
                if (c == ' ') {
                    n++;
                } else {
                    words[n] = words[n] * 32 + (c - 'a' + 1);
                }
            }
            return words;
        }

        private static int placeOf(long word, long[] words) {
            for (int i = 0; i < words.length; i++) {
                if (words[i] == word) {
                    return i;
                }
            }
            return NONE;
        }

        private void look(int token) {
            at = token;
            kind = tape.kindAt(at);
            word = kind == Tape.WORD ? tape.valueAt(at) : Tape.NO_WORD;
            joiner = placeOf(word, joiningWords);
        }

        private boolean fail(int fault) {
            faultKind = fault;
            faultPlace = tape.placeAt(at);
            return false;
        }

        boolean readText() {
            faultKind = 0;
            faultPlace = NONE;
            look(0);
            for (int n = 0; n <= Tape.MOST_BYTES; n++) {
                if (kind == Tape.END) {
                    return true;
                }
                if (!readHead() || !readBody()) {
                    return false;
                }
                if (kind != ';') {
                    return fail(SYNTAX);
                }
                look(at + 1);
            }
            return fail(SYNTAX);
        }

        /** Reads a clause's first word, and the deed's where it has one. */
        private boolean readHead() {
            clauseWord = placeOf(word, clauseWords);
            if (clauseWord == NONE) {
                return fail(SYNTAX);
            }
            clause = clauseWord == REFUSE ? Law.CLERGY : clauseWord == STAND ? Law.VOID : clauseWord;
            deed = Tape.NO_WORD;
            if (clause != Law.STRIKE && law.draftHas(clause, deed)) {
                return fail(TWICE);
            }
            if (law.draftClauses() >= Law.MOST_CLAUSES) {
                return fail(ROOM);
            }
            look(at + 1);
            return clause >= Law.JURY || readDeedName();
        }

        private boolean readDeedName() {
            deed = word;
            if (kind != Tape.WORD) {
                return fail(SYNTAX);
            }
            if (law.draftHas(clause, deed)) {
                return fail(TWICE);
            }
            look(at + 1);
            return true;
        }

        private boolean readBody() {
            switch (clause) {
                case Law.DEED:
                    return readDeed();
                case Law.WORDS:
                    return readWords();
                case Law.STRIKE:
                    return readStrike();
                case Law.DEATH:
                case Law.CLERGY:
                case Law.KEEP:
                case Law.MEND:
                case Law.VOID:
                    law.draftClause(clause, deed, clauseWord == REFUSE || clauseWord == STAND ? 0 : 1);
                    return true;
                default:
                    return readNumber();
            }
        }

        private boolean readNumber() {
            if (kind != Tape.NUMBER) {
                return fail(SYNTAX);
            }
            int n = (int) tape.valueAt(at);
            if (clause < 0 || clause >= MOST.length || n < LEAST[clause] || n > MOST[clause]) {
                return fail(BOUNDS);
            }
            law.draftClause(clause, deed, n);
            look(at + 1);
            return true;
        }

        private boolean readStrike() {
            if (kind != Tape.NUMBER) {
                return fail(SYNTAX);
            }
            int act = (int) tape.valueAt(at);
            if (act >= law.acts) {
                return fail(BOUNDS);
            }
            look(at + 1);
            law.draftClause(Law.STRIKE, word, act);
            if (kind == Tape.WORD) {
                look(at + 1);
            }
            return true;
        }

        private boolean readWords() {
            int n = 0;
            while (n < MOST_WORDS && kind == Tape.WORD) {
                law.draftItem(word);
                look(at + 1);
                n++;
            }
            if (n == 0) {
                return fail(SYNTAX);
            }
            if (kind == Tape.WORD) {
                return fail(ROOM);
            }
            law.draftClause(Law.WORDS, deed, n);
            return true;
        }

        // -- conditions: written behind one another, each "and", "or", "not" behind what it joins

        private boolean readDeed() {
            if (kind != '=') {
                return fail(SYNTAX);
            }
            look(at + 1);
            waits = 0;
            open = 0;
            tests = 0;
            boolean unless = false;
            for (int n = 0; n <= Tape.MOST_BYTES; n++) {
                if (!readOpenings() || !readTest()) {
                    return false;
                }
                readClosings();
                if (joiner == AND || joiner == OR) {
                    release(joiner);
                    await(joiner);
                } else if (joiner == UNLESS && open == 0 && !unless) {
                    release(OR);
                    unless = true;
                } else if (kind == ';' && open == 0) {
                    release(OR);
                    closeDeed(unless);
                    return true;
                } else {
                    return fail(SYNTAX);
                }
                look(at + 1);
            }
            return fail(SYNTAX);
        }

        private void closeDeed(boolean unless) {
            if (unless) {
                law.draftItem(Law.NOT);
                law.draftItem(Law.AND);
            }
            law.draftClause(Law.DEED, deed, tests);
        }

        private boolean readOpenings() {
            for (int n = 0; n <= Tape.MOST_BYTES; n++) {
                if (joiner == NOT) {
                    awaitNot();
                } else if (kind == '(' && open >= MOST_OPEN) {
                    return fail(ROOM);
                } else if (kind == '(') {
                    await(BRACKET);
                    open++;
                } else {
                    return true;
                }
                look(at + 1);
            }
            return fail(SYNTAX);
        }

        private void readClosings() {
            for (int n = 0; n < MOST_OPEN && kind == ')' && open > 0; n++) {
                release(OR);
                waits--;
                open--;
                releaseNot();
                look(at + 1);
            }
        }

        private boolean readTest() {
            if (isTerm() && tests >= MOST_TESTS) {
                return fail(ROOM);
            }
            if (!readSum()) {
                return false;
            }
            if (joiner >= ABOVE && joiner <= IS) {
                law.draftItem(joiner == ABOVE ? Law.ABOVE : joiner == BELOW ? Law.BELOW : Law.IS);
                look(at + 1);
                if (!readSum()) {
                    return false;
                }
            }
            law.draftItem(Law.TEST);
            tests++;
            releaseNot();
            return true;
        }

        private boolean isTerm() {
            return kind == Tape.NUMBER || kind == Tape.WORD && joiner == NONE;
        }

        private boolean readSum() {
            for (int n = 0; n <= MOST_TERMS; n++) {
                if (!isTerm()) {
                    return fail(SYNTAX);
                }
                if (n == MOST_TERMS) {
                    return fail(ROOM);
                }
                law.draftItem(kind == Tape.WORD ? word : -1 - tape.valueAt(at));
                look(at + 1);
                if (kind != '+') {
                    return true;
                }
                look(at + 1);
            }
            return fail(SYNTAX);
        }

        private void await(int join) {
            if (waits < waiting.length) {
                waiting[waits] = join;
                waits++;
            }
        }

        private boolean isWaiting(int join) {
            return waits > 0 && waiting[waits - 1] == join;
        }

        /** Two that stand together undo one another, so that any row of "not" waits as one at most. */
        private void awaitNot() {
            if (isWaiting(NOT)) {
                waits--;
            } else {
                await(NOT);
            }
        }

        private void releaseNot() {
            if (isWaiting(NOT)) {
                waits--;
                law.draftItem(Law.NOT);
            }
        }

        /** Writes what waits inside the bracket and joins as close as the one that comes, or closer. */
        private void release(int join) {
            if (isWaiting(AND)) {
                waits--;
                law.draftItem(Law.AND);
            }
            if (join == OR && isWaiting(OR)) {
                waits--;
                law.draftItem(Law.OR);
            }
        }
    }

    /** One MATTER: how it began, how it stands, and the PEOPLE in it. */
    private static final class Matter {
        static final int BEGUN = 0;
        static final int NO_BILL = 1;
        static final int TRUE_BILL = 2;
        static final int GUILTY = 3;
        static final int NOT_GUILTY = 4;
        static final int JUDGED = 5;
        static final int BENEFIT = 6;
        static final int KEPT = 7;
        static final int PARDONED = 8;
        static final int BROKEN = 9;
        static final int MOST_WORDS = 28;
        static final int MOST_WITNESSES = 4;
        static final int MOST_JURORS = 12;
        static final int MOST_CHALLENGES = 12;

        final long deed;
        final int suer;
        final int accused;
        final int shire;
        final int hundred;
        final int day;
        final int pounds;
        int state = BEGUN;
        boolean toDie = false;
        int finePaid = 0;
        int hoursTaken = 1;
        int heard = NONE;
        boolean freedByJudges = false;
        int banShire = NONE;
        int banTo = NONE;
        final Row indicted = new Row(MOST_WORDS);
        final Row alleged = new Row(Row.MOST_FACTS);
        final Row found = new Row(Row.MOST_FACTS);
        final Row witnesses = new Row(MOST_WITNESSES);
        final Row jurors = new Row(MOST_JURORS);
        final Row challenged = new Row(MOST_CHALLENGES);

        Matter(long deed, int suer, int accused, int shire, int hundred, int day, int pounds) {
            this.deed = deed;
            this.suer = suer;
            this.accused = accused;
            this.shire = shire;
            this.hundred = hundred;
            this.day = day;
            this.pounds = pounds;
        }

        boolean isPlea() {
            return suer != NONE;
        }

        boolean isOpen() {
            return state == BEGUN || state == TRUE_BILL || state == GUILTY || state == KEPT;
        }

        int stateBeforeJury() {
            return isPlea() ? BEGUN : TRUE_BILL;
        }

        boolean wantsJurors() {
            return state == stateBeforeJury();
        }

        boolean isJudgedToDie() {
            return state == JUDGED && toDie;
        }

        boolean holdsInGaol() {
            return !isPlea() && (isOpen() || isJudgedToDie() || state == BROKEN);
        }

        boolean canBeChecked() {
            return state == NOT_GUILTY ? !freedByJudges : state >= GUILTY;
        }

        boolean isParty(int p) {
            return p == accused || p == suer;
        }

        boolean involves(int p) {
            return isParty(p) || witnesses.has(p) || jurors.has(p);
        }

        boolean sharesPeople(Matter other) {
            if (other.involves(accused) || isPlea() && other.involves(suer)) {
                return true;
            }
            for (int i = 0; i < witnesses.size; i++) {
                if (other.involves((int) witnesses.nameAt(i))) {
                    return true;
                }
            }
            for (int i = 0; i < jurors.size; i++) {
                if (other.involves((int) jurors.nameAt(i))) {
                    return true;
                }
            }
            return false;
        }

        int tellOf(int what) {
            switch (what) {
                case 0:
                    return isPlea() ? 1 : 0;
                case 1:
                    return suer;
                case 2:
                    return accused;
                case 3:
                    return shire;
                case 4:
                    return hundred;
                case 5:
                    return day;
                case 6:
                    return pounds;
                case 7:
                    return state;
                case 8:
                    return toDie ? 1 : 0;
                case 9:
                    return finePaid;
                case 10:
                    return jurors.size;
                case 11:
                    return witnesses.size;
                case 12:
                    return challenged.size;
                case 13:
                    return hoursTaken;
                case 14:
                    return heard;
                default:
                    return ABSENT;
            }
        }
    }

    /** The MATTERS, what THE LAW makes of them, and how their STATES changed. */
    private static final class Docket {
        static final int MOST = 100;
        static final int MOST_SETTLED = 40;
        static final int MOST_RIGHTINGS = 40;
        // A call logs one of its own; a settle, kin or seen that logs many logs one more, at most, for each
        // keep, hear or pardon ahead of it.
        static final int LOG_ROOM = 2 * MOST_CALLS;

        private final Law law;
        private final People people;
        int size = 0;
        int fines = 0;
        private final Matter[] matters = new Matter[MOST];
        private final boolean[] benefited = new boolean[People.MOST];
        private final long[] settledDeeds = new long[MOST_SETTLED];
        private final boolean[] settledAs = new boolean[MOST_SETTLED];
        private int settled = 0;
        private final int[] rightings = new int[MOST];
        private final int[] logMatters = new int[LOG_ROOM];
        private final int[] logStates = new int[LOG_ROOM];
        private final int[] logFrom = new int[LOG_ROOM];
        private final int[] logKnown = new int[LOG_ROOM];
        private int logged = 0;
        private final int[] drawable = new int[People.MOST];
        private final int[] putIn = new int[(Matter.MOST_WORDS + 1) * (ActReader.MOST_WORDS + 1)];
        private final Row woven = new Row(Matter.MOST_WORDS);

        Docket(Law law, People people) {
            this.law = law;
            this.people = people;
        }

        Matter find(int m) {
            return m >= 0 && m < size ? matters[m] : null;
        }

        Matter findCrown(int m) {
            Matter x = find(m);
            return x == null || x.isPlea() ? null : x;
        }

        boolean isFull() {
            return size >= MOST;
        }

        int begin(Matter x, int today) {
            if (isFull()) {
                return FULL;
            }
            matters[size] = x;
            size++;
            log(size - 1, Matter.BEGUN, today, today);
            return size - 1;
        }

        int countOfState(int state) {
            int n = 0;
            for (int m = 0; m < size; m++) {
                Matter x = find(m);
                if (x != null && x.state == state) {
                    n++;
                }
            }
            return n;
        }

        /** What THE LAW of a MATTER tells; KINDS from jury on go without its deed. */
        int lawOf(Matter x, int kind) {
            return law.numberInForce(kind, kind < Law.JURY ? x.deed : Tape.NO_WORD, x.day, x.shire);
        }

        // -- STATES, as they change and as they were

        private void log(int m, int state, int from, int known) {
            if (logged < LOG_ROOM) {
                logMatters[logged] = m;
                logStates[logged] = state;
                logFrom[logged] = from;
                logKnown[logged] = known;
                logged++;
            }
        }

        int change(int m, int state, int today) {
            Matter x = find(m);
            if (x != null) {
                x.state = state;
                log(m, state, today, today);
            }
            return state;
        }

        int setRight(int m, int state, int from, int today) {
            if (m < 0 || m >= MOST || rightings[m] >= MOST_RIGHTINGS) {
                return FULL;
            }
            rightings[m]++;
            log(m, state, from, today);
            return rightings[m];
        }

        int stateAsKnown(int m, int day, int known) {
            int state = NONE;
            int latest = NONE;
            for (int i = 0; i < logged; i++) {
                if (logMatters[i] == m && logKnown[i] <= known && within(logFrom[i], latest, day)) {
                    latest = logFrom[i];
                    state = logStates[i];
                }
            }
            return state;
        }

        // -- indictments

        int indictmentFault(Matter x) {
            if (!x.indicted.told || !x.alleged.told) {
                return 100;
            }
            int clause = law.clauseInForce(Law.DEED, x.deed, x.day, x.shire);
            if (clause == NONE) {
                return 200;
            }
            int word = wordNotHad(x);
            if (word != NONE) {
                return 300 + word;
            }
            int lack = law.lacking(clause, law.testsMet(clause, x.alleged));
            return lack == NONE ? 0 : 400 + lack;
        }

        private int wordNotHad(Matter x) {
            int clause = law.clauseInForce(Law.WORDS, x.deed, x.day, x.shire);
            int had = 0;
            for (int i = 0; i < x.indicted.size; i++) {
                if (had < law.itemsIn(clause) && x.indicted.nameAt(i) == law.itemAt(clause, had)) {
                    had++;
                }
            }
            return had < law.itemsIn(clause) ? had : NONE;
        }

        int weaveIn(Matter x) {
            int clause = law.clauseInForce(Law.WORDS, x.deed, x.day, x.shire);
            int words = Math.min(law.itemsIn(clause), ActReader.MOST_WORDS);
            countPutIn(x.indicted, clause, words);
            int fewest = putIn[0];
            if (x.indicted.size + fewest > Matter.MOST_WORDS) {
                return FULL;
            }
            weave(x.indicted, clause, words);
            x.indicted.copyFrom(woven);
            return fewest;
        }

        private static int cell(int i, int j) {
            return i * (ActReader.MOST_WORDS + 1) + j;
        }

        /** How few words must be put in, from the i-th of the row and the j-th of THE LAW on. */
        private void countPutIn(Row row, int clause, int words) {
            for (int i = Math.min(row.size, Matter.MOST_WORDS); i >= 0; i--) {
                for (int j = words; j >= 0; j--) {
                    int fewest;
                    if (j == words || i == row.size) {
                        fewest = words - j;
                    } else if (row.nameAt(i) == law.itemAt(clause, j)) {
                        fewest = putIn[cell(i + 1, j + 1)];
                    } else {
                        fewest = Math.min(putIn[cell(i + 1, j)], 1 + putIn[cell(i, j + 1)]);
                    }
                    putIn[cell(i, j)] = fewest;
                }
            }
        }

        private void weave(Row row, int clause, int words) {
            woven.clear();
            int i = 0;
            int j = 0;
            for (int n = 0; n < Matter.MOST_WORDS && (i < row.size || j < words); n++) {
                boolean both = i < row.size && j < words && row.nameAt(i) == law.itemAt(clause, j);
                boolean fromLaw = !both && j < words
                        && (i == row.size || putIn[cell(i, j + 1)] + 1 == putIn[cell(i, j)]);
                woven.add(fromLaw ? law.itemAt(clause, j) : row.nameAt(i), 0);
                i += fromLaw ? 0 : 1;
                j += both || fromLaw ? 1 : 0;
            }
            woven.told = true;
        }

        // -- jurors

        boolean mayServe(Matter x, int p, int day, int known) {
            return isFit(x, p, day, known, lawOf(x, Law.LAND), lawOf(x, Law.KIN));
        }

        private boolean isFit(Matter x, int p, int day, int known, int land, int degree) {
            return people.shireOf(p) == x.shire
                    && !x.isParty(p) && !x.witnesses.has(p)
                    && !people.isDead(p, day, known)
                    && people.landOf(p, day, known) >= land
                    && !isKin(p, x.accused, known, degree)
                    && !(x.isPlea() && isKin(p, x.suer, known, degree));
        }

        private boolean isKin(int p, int q, int known, int degree) {
            return within(people.kinOf(p, q, known), 1, degree);
        }

        /** Finds those who could be DRAWN: how many. */
        int findDrawable(Matter x, int today) {
            int land = lawOf(x, Law.LAND);
            int degree = lawOf(x, Law.KIN);
            int n = 0;
            for (int p = 0; p < People.MOST; p++) {
                if (isFit(x, p, today, today, land, degree) && !x.jurors.has(p) && !x.challenged.has(p)) {
                    drawable[n] = p;
                    n++;
                }
            }
            return n;
        }

        int drawableAt(int i) {
            return i >= 0 && i < drawable.length ? drawable[i] : NONE;
        }

        boolean hasBarredJuror(Matter x, int known) {
            int land = lawOf(x, Law.LAND);
            int degree = lawOf(x, Law.KIN);
            for (int i = 0; i < x.jurors.size; i++) {
                if (!isFit(x, (int) x.jurors.nameAt(i), x.heard, known, land, degree)) {
                    return true;
                }
            }
            return false;
        }

        private int jurorsOfHundred(Matter x) {
            int n = 0;
            for (int i = 0; i < x.jurors.size; i++) {
                if (people.hundredOf((int) x.jurors.nameAt(i)) == x.hundred) {
                    n++;
                }
            }
            return n;
        }

        int lacksOfHundred(Matter x) {
            return Math.max(0, lawOf(x, Law.HUNDRED) - jurorsOfHundred(x));
        }

        boolean isJuryFull(Matter x) {
            return x.jurors.size == lawOf(x, Law.JURY) && lacksOfHundred(x) == 0;
        }

        /** KIN LATER: only what is told now counts, as no juror had it against them when drawn. */
        int kinFoundLater(int p, int q, int degree, int today) {
            int n = 0;
            for (int m = 0; m < size && degree > 0; m++) {
                Matter x = find(m);
                if (x != null && isJurorAndParty(x, p, q) && degree <= lawOf(x, Law.KIN)
                        && lawOf(x, Law.VOID) == 1) {
                    beginAgain(m, x, today);
                    n++;
                }
            }
            return n;
        }

        private static boolean isJurorAndParty(Matter x, int p, int q) {
            return (x.state == Matter.GUILTY || x.state == Matter.JUDGED)
                    && (x.jurors.has(p) && x.isParty(q) || x.jurors.has(q) && x.isParty(p));
        }

        // -- verdicts and judgements

        boolean isMade(Matter x) {
            int clause = law.clauseInForce(Law.DEED, x.deed, x.day, x.shire);
            return clause != NONE && law.lacking(clause, law.testsMet(clause, x.found)) == NONE;
        }

        int verdict(Matter x) {
            if (!isMade(x)) {
                return Matter.NOT_GUILTY;
            }
            if (x.isPlea()) {
                return Matter.JUDGED;
            }
            return isSettledAsNone(x.deed) ? Matter.NOT_GUILTY : Matter.GUILTY;
        }

        private boolean isSettledAsNone(long deed) {
            for (int i = settled - 1; i >= 0; i--) {
                if (settledDeeds[i] == deed) {
                    return !settledAs[i];
                }
            }
            return false;
        }

        void sentence(int m, Matter x, int today) {
            x.toDie = lawOf(x, Law.DEATH) == 1;
            if (!x.toDie) {
                x.finePaid = lawOf(x, Law.FINE);
                fines += x.finePaid;
            }
            change(m, Matter.JUDGED, today);
        }

        int settleDeed(long deed, boolean as, int today) {
            if (settled >= MOST_SETTLED) {
                return FULL;
            }
            settledDeeds[settled] = deed;
            settledAs[settled] = as;
            settled++;
            int n = 0;
            for (int m = 0; m < size; m++) {
                Matter x = find(m);
                if (x != null && x.state == Matter.KEPT && x.deed == deed) {
                    n++;
                    if (as) {
                        sentence(m, x, today);
                    } else {
                        x.freedByJudges = true;
                        change(m, Matter.NOT_GUILTY, today);
                    }
                }
            }
            return n;
        }

        boolean hadBenefit(int p) {
            return p >= 0 && p < benefited.length && benefited[p];
        }

        private void setBenefit(int p, boolean had) {
            if (p >= 0 && p < benefited.length) {
                benefited[p] = had;
            }
        }

        void giveBenefit(int m, Matter x, int today) {
            setBenefit(x.accused, true);
            x.toDie = false;
            change(m, Matter.BENEFIT, today);
        }

        int breakPardons(int p, int shire, int today) {
            int n = 0;
            for (int m = 0; m < size; m++) {
                Matter x = find(m);
                if (x != null && x.state == Matter.PARDONED && x.accused == p && x.banShire == shire
                        && today <= x.banTo) {
                    x.toDie = true;
                    change(m, Matter.BROKEN, today);
                    n++;
                }
            }
            return n;
        }

        /** UNDONE, and KIN LATER likewise: the STATE then. */
        int beginAgain(int m, Matter x, int today) {
            if (x.state == Matter.BENEFIT) {
                setBenefit(x.accused, false);
            }
            fines -= x.finePaid;
            x.finePaid = 0;
            x.toDie = false;
            x.heard = NONE;
            x.freedByJudges = false;
            x.found.clear();
            x.jurors.clear();
            x.challenged.clear();
            return change(m, x.stateBeforeJury(), today);
        }

        /** The first MATTER by which one stays in gaol. */
        int holdingMatter(int p) {
            for (int m = 0; m < size; m++) {
                Matter x = find(m);
                if (x != null && x.accused == p && x.holdsInGaol()) {
                    return m;
                }
            }
            return NONE;
        }
    }

    /** PRISONERS, who was LEFT, and BONDS. */
    private static final class Gaols {
        static final int MOST_BONDS = 80;
        static final int RUNS = 0;
        static final int MET = 1;
        static final int FORFEIT = 2;
        static final int NEITHER = 3;

        private final int[] gaols = new int[People.MOST];
        private final int[] since = new int[People.MOST];
        private final int[] waited = new int[People.MOST];
        private final int[] leftWho = new int[People.MOST];
        private final int[] leftBy = new int[People.MOST];
        private int leftSize = 0;
        int bonds = 0;
        int forfeited = 0;
        private final int[] bondWho = new int[MOST_BONDS];
        private final int[] bondShires = new int[MOST_BONDS];
        private final int[] bondFrom = new int[MOST_BONDS];
        private final int[] bondTo = new int[MOST_BONDS];
        private final int[] bondPounds = new int[MOST_BONDS];
        private final int[] bondStates = new int[MOST_BONDS];

        Gaols() {
            Arrays.fill(gaols, NONE);
        }

        int gaolOf(int p) {
            return p >= 0 && p < gaols.length ? gaols[p] : NONE;
        }

        int countIn(int shire) {
            int n = 0;
            for (int p = 0; p < gaols.length; p++) {
                if (gaols[p] == shire) {
                    n++;
                }
            }
            return n;
        }

        void takeIn(int p, int shire, int today) {
            if (p >= 0 && p < gaols.length) {
                gaols[p] = shire;
                since[p] = today;
            }
        }

        void letOut(int p, int today) {
            if (gaolOf(p) != NONE) {
                waited[p] += today - since[p];
                gaols[p] = NONE;
            }
        }

        int daysWaited(int p, int today) {
            if (p < 0 || p >= waited.length) {
                return 0;
            }
            return waited[p] + (gaols[p] == NONE ? 0 : today - since[p]);
        }

        int empty(int shire, Docket docket, int today) {
            int freed = 0;
            leftSize = 0;
            for (int p = 0; p < gaols.length; p++) {
                if (gaols[p] == shire) {
                    int m = docket.holdingMatter(p);
                    if (m == NONE) {
                        letOut(p, today);
                        freed++;
                    } else {
                        leftWho[leftSize] = p;
                        leftBy[leftSize] = m;
                        leftSize++;
                    }
                }
            }
            return freed;
        }

        int tellOfLeft(int i, int what) {
            if (i < 0 || i >= leftSize || !within(what, 0, 1)) {
                return NONE;
            }
            return what == 0 ? leftWho[i] : leftBy[i];
        }

        int bind(int p, int shire, int from, int to, int pounds) {
            if (bonds >= MOST_BONDS) {
                return FULL;
            }
            bondWho[bonds] = p;
            bondShires[bonds] = shire;
            bondFrom[bonds] = from;
            bondTo[bonds] = to;
            bondPounds[bonds] = pounds;
            bondStates[bonds] = RUNS;
            bonds++;
            return bonds - 1;
        }

        int meetBonds(int p, int shire, int today) {
            int n = 0;
            for (int b = 0; b < bonds; b++) {
                if (bondStates[b] == RUNS && bondWho[b] == p && bondShires[b] == shire
                        && within(today, bondFrom[b], bondTo[b])) {
                    bondStates[b] = MET;
                    n++;
                }
            }
            return n;
        }

        /** Whatever was told when a BOND ran out was told by its last day, as it ran until then. */
        void runOut(int today, People people) {
            for (int b = 0; b < bonds; b++) {
                if (bondStates[b] == RUNS && bondTo[b] < today) {
                    boolean wasDead = people.isDead(bondWho[b], bondTo[b], bondTo[b]);
                    bondStates[b] = wasDead ? NEITHER : FORFEIT;
                    forfeited += wasDead ? 0 : bondPounds[b];
                }
            }
        }

        int tellOfBond(int b, int what) {
            if (b < 0 || b >= bonds) {
                return NONE;
            }
            switch (what) {
                case 0:
                    return bondWho[b];
                case 1:
                    return bondShires[b];
                case 2:
                    return bondFrom[b];
                case 3:
                    return bondTo[b];
                case 4:
                    return bondPounds[b];
                case 5:
                    return bondStates[b];
                default:
                    return NONE;
            }
        }
    }

    /** The ORDER of a DAY: its MATTERS by number, and where the latest best() laid them. */
    private static final class DayOrder {
        static final int MOST = 5;
        static final int COURTS = 2;
        static final int NOT_LAID = 99;

        int size = 0;
        private final int[] numbers = new int[MOST];
        private final int[] places = new int[MOST];
        private boolean isLaid = false;
        private final int[] lengths = new int[MOST];
        private final boolean[] clashes = new boolean[MOST * MOST];
        private final int[] trial = new int[MOST];
        private int dayHours = 0;
        private int ceiling = 0;

        void beginAnew() {
            size = 0;
            isLaid = false;
        }

        boolean has(int m) {
            for (int i = 0; i < size; i++) {
                if (numbers[i] == m) {
                    return true;
                }
            }
            return false;
        }

        int insert(int m) {
            if (size >= MOST) {
                return FULL;
            }
            int at = size;
            while (at > 0 && numbers[at - 1] > m) {
                numbers[at] = numbers[at - 1];
                at--;
            }
            numbers[at] = m;
            size++;
            isLaid = false;
            return size;
        }

        private void prepare(int hours, Docket docket) {
            dayHours = hours;
            Arrays.fill(trial, NOT_LAID);
            for (int i = 0; i < size; i++) {
                Matter x = docket.find(numbers[i]);
                lengths[i] = x == null ? 1 : x.hoursTaken;
                for (int j = 0; j < i; j++) {
                    Matter y = docket.find(numbers[j]);
                    boolean clash = x != null && y != null && x.sharesPeople(y);
                    clashes[i * MOST + j] = clash;
                    clashes[j * MOST + i] = clash;
                }
            }
        }

        /** Whether the i-th MATTER can stand at a place beside the others of the trial. */
        private boolean fits(int i, int place) {
            int hour = place / COURTS;
            if (hour + lengths[i] > dayHours) {
                return false;
            }
            for (int j = 0; j < size; j++) {
                int other = trial[j] / COURTS;
                boolean apart = j == i || trial[j] == NOT_LAID
                        || trial[j] % COURTS != place % COURTS && !clashes[i * MOST + j];
                if (!apart && hour < other + lengths[j] && other < hour + lengths[i]) {
                    return false;
                }
            }
            return true;
        }

        int layBest(int hours, Docket docket) {
            ceiling = mostByHours(hours, docket);
            int most = mostLaid(0);
            tryFrom(0, most);
            System.arraycopy(trial, 0, places, 0, MOST);
            isLaid = true;
            return most;
        }

        /**
         * The most that can be laid besides the trial. Each right row stays right when its MATTERS, by
         * their starts, move as far ahead as they can: so only orders and COURTS are tried, not hours.
         */
        private int mostLaid(int laidSoFar) {
            int most = laidSoFar;
            // The first one's COURT doesn't matter, as both are alike.
            int courts = laidSoFar == 0 ? 1 : COURTS;
            for (int i = 0; i < size && most < ceiling; i++) {
                for (int court = 0; court < courts && trial[i] == NOT_LAID; court++) {
                    int place = soonest(i, court);
                    if (place != NONE) {
                        trial[i] = place;
                        most = Math.max(most, mostLaid(laidSoFar + 1));
                        trial[i] = NOT_LAID;
                    }
                }
            }
            return most;
        }

        private int soonest(int i, int court) {
            for (int hour = 0; hour < dayHours; hour++) {
                if (fits(i, COURTS * hour + court)) {
                    return COURTS * hour + court;
                }
            }
            return NONE;
        }

        /** Leaves the first row in the trial, from the least on, that lays so many from the i-th MATTER on. */
        private boolean tryFrom(int i, int toLay) {
            if (toLay > size - i) {
                return false;
            }
            if (i >= size) {
                return true;
            }
            for (int place = 0; place < COURTS * dayHours; place++) {
                if (fits(i, place)) {
                    trial[i] = place;
                    if (tryFrom(i + 1, toLay - 1)) {
                        return true;
                    }
                    trial[i] = NOT_LAID;
                }
            }
            return tryFrom(i + 1, toLay);
        }

        int placeOf(int i) {
            return isLaid && i >= 0 && i < size ? places[i] : NONE;
        }

        int mostByHours(int hours, Docket docket) {
            prepare(hours, docket);
            int n = 0;
            int sum = 0;
            for (int length = 1; length <= 4; length++) {
                for (int i = 0; i < size; i++) {
                    if (lengths[i] == length && sum + length <= COURTS * hours) {
                        sum += length;
                        n++;
                    }
                }
            }
            return n;
        }

        int laidRightly(Tape tape, int bytes, int hours, Docket docket) {
            if (bytes != size) {
                return NONE;
            }
            prepare(hours, docket);
            int n = 0;
            for (int i = 0; i < size; i++) {
                int b = tape.bytes[i];
                trial[i] = b == 'z' ? NOT_LAID : b - '0';
                if (b != 'z') {
                    if (b < '0' || !fits(i, trial[i])) {
                        return NONE;
                    }
                    n++;
                }
            }
            return n;
        }
    }

    /** ROADS, and the latest ride. */
    private static final class Circuit {
        private final int[] roads = new int[SHIRES * SHIRES];
        private final int[] ways = new int[SHIRES * SHIRES];
        int size = 0;
        private final int[] shires = new int[SHIRES];
        private final int[] reached = new int[SHIRES];
        private int firstDay = 0;
        private int stay = 1;
        private final int[] prisoners = new int[SHIRES];
        private final int[] trial = new int[SHIRES];
        private final int[] bestRow = new int[SHIRES];
        private int bestWaits = NONE;
        private int bestEnd = NONE;

        Circuit() {
            Arrays.fill(roads, NONE);
            Arrays.fill(ways, NONE);
            for (int s = 0; s < SHIRES; s++) {
                ways[s * SHIRES + s] = 0;
            }
        }

        int setRoad(int s, int o, int days) {
            int before = roads[s * SHIRES + o];
            roads[s * SHIRES + o] = days;
            roads[o * SHIRES + s] = days;
            findWays();
            return before;
        }

        private void findWays() {
            System.arraycopy(roads, 0, ways, 0, SHIRES * SHIRES);
            for (int s = 0; s < SHIRES; s++) {
                ways[s * SHIRES + s] = 0;
            }
            for (int by = 0; by < SHIRES; by++) {
                for (int s = 0; s < SHIRES; s++) {
                    for (int o = 0; o < SHIRES; o++) {
                        shorten(s, by, o);
                    }
                }
            }
        }

        private void shorten(int s, int by, int o) {
            int first = ways[s * SHIRES + by];
            int second = ways[by * SHIRES + o];
            int now = ways[s * SHIRES + o];
            if (first != NONE && second != NONE && (now == NONE || first + second < now)) {
                ways[s * SHIRES + o] = first + second;
            }
        }

        int daysBetween(int s, int o) {
            return ways[s * SHIRES + o];
        }

        private boolean reachesAll(int from, int set) {
            for (int s = 0; s < SHIRES; s++) {
                if ((set >> s & 1) == 1 && daysBetween(from, s) == NONE) {
                    return false;
                }
            }
            return true;
        }

        int plan(int from, int day, int set, int daysStayed, Gaols gaols) {
            if (!reachesAll(from, set)) {
                return NONE;
            }
            firstDay = day;
            stay = daysStayed;
            return layRest(0, from, day, set, gaols);
        }

        /** A ride that a road since taken away has cut off stays as it was. */
        int delay(int k, int days, Gaols gaols) {
            if (k < 1 || k > size) {
                return RANGE;
            }
            int set = 0;
            for (int i = k; i < size; i++) {
                set |= 1 << shires[i];
            }
            if (!reachesAll(shires[k - 1], set)) {
                return NONE;
            }
            return layRest(k, shires[k - 1], reached[k - 1] + stay + days, set, gaols);
        }

        /** Lays the SHIRES of a set behind the first ones that are kept: the sum of all WAITS. */
        private int layRest(int kept, int from, int day, int set, Gaols gaols) {
            for (int s = 0; s < SHIRES; s++) {
                prisoners[s] = gaols.countIn(s);
            }
            bestWaits = NONE;
            tryNext(kept, from, day, set, 0);
            size = Math.min(kept + Integer.bitCount(set), SHIRES);
            int here = from;
            int leaves = day;
            for (int i = kept; i < size; i++) {
                shires[i] = bestRow[i];
                reached[i] = leaves + daysBetween(here, shires[i]);
                here = shires[i];
                leaves = reached[i] + stay;
            }
            int waits = 0;
            for (int i = 0; i < size; i++) {
                waits += prisoners[shires[i]] * (reached[i] - firstDay);
            }
            return waits;
        }

        /** Rows come from the least on, so of those that are as good the first one stays. */
        private void tryNext(int at, int here, int leaves, int rest, int waits) {
            if (rest == 0 || at >= SHIRES) {
                if (bestWaits == NONE || waits < bestWaits || waits == bestWaits && leaves < bestEnd) {
                    bestWaits = waits;
                    bestEnd = leaves;
                    System.arraycopy(trial, 0, bestRow, 0, SHIRES);
                }
                return;
            }
            for (int s = 0; s < SHIRES; s++) {
                if ((rest >> s & 1) == 1) {
                    int comes = leaves + daysBetween(here, s);
                    trial[at] = s;
                    tryNext(at + 1, s, comes + stay, rest & ~(1 << s),
                            waits + prisoners[s] * (comes - firstDay));
                }
            }
        }

        int tellOfRide(int i, int what) {
            if (i < 0 || i >= size || !within(what, 0, 1)) {
                return NONE;
            }
            return what == 0 ? shires[i] : reached[i];
        }
    }

    /** Three ROLLS, and the rows of the latest join(). */
    private static final class Rolls {
        static final int ROLLS = 3;
        static final int MOST_LINES = 10;
        static final int FIGURES = 3;
        static final int SIDE = MOST_LINES + 1;
        // The rolls that a row takes of, as bits: of more ahead of fewer, then of the lesser ones.
        static final int[] TAKES = {7, 3, 5, 6, 1, 2, 4};

        private final int[] sizes = new int[ROLLS];
        private final int[] lines = new int[ROLLS * MOST_LINES];
        private final int[] costs = new int[SIDE * SIDE * SIDE];
        private final int[] at = new int[ROLLS];
        private final int[] rows = new int[ROLLS * MOST_LINES * ROLLS];
        private int rowCount = 0;

        int write(int r, Tape tape, int bytes) {
            if (r < 0 || r >= ROLLS || bytes > MOST_LINES * FIGURES || bytes % FIGURES != 0) {
                return NONE;
            }
            for (int i = 0; i < bytes; i++) {
                if (!within(tape.bytes[i], '0', '9')) {
                    return NONE;
                }
            }
            sizes[r] = bytes / FIGURES;
            for (int i = 0; i < sizes[r]; i++) {
                int line = 0;
                for (int f = 0; f < FIGURES; f++) {
                    line = line * 10 + tape.bytes[i * FIGURES + f] - '0';
                }
                lines[r * MOST_LINES + i] = line;
            }
            rowCount = 0;
            return sizes[r];
        }

        private int lineAt(int r) {
            return lines[r * MOST_LINES + at[r]];
        }

        private static int unlike(int line, int other) {
            if (line == other) {
                return 0;
            }
            return line / 10 == other / 10 ? 1 : 4;
        }

        /** Whether each roll that a row would take of has a LINE left. */
        private boolean canTake(int take) {
            for (int r = 0; r < ROLLS; r++) {
                if ((take >> r & 1) == 1 && at[r] >= sizes[r]) {
                    return false;
                }
            }
            return true;
        }

        private int costOfRow(int take) {
            int cost = ROLLS - Integer.bitCount(take);
            for (int r = 0; r < ROLLS; r++) {
                for (int q = 0; q < r; q++) {
                    if ((take >> r & 1) == 1 && (take >> q & 1) == 1) {
                        cost += unlike(lineAt(r), lineAt(q));
                    }
                }
            }
            return cost;
        }

        /** What the rows cost from where the rolls stand, if the next one takes of these. */
        private int costBehind(int take) {
            int next = cell(at[0] + (take & 1), at[1] + (take >> 1 & 1), at[2] + (take >> 2 & 1));
            return costOfRow(take) + costs[next];
        }

        private static int cell(int i, int j, int k) {
            return (i * SIDE + j) * SIDE + k;
        }

        int lay() {
            for (int i = sizes[0]; i >= 0; i--) {
                for (int j = sizes[1]; j >= 0; j--) {
                    for (int k = sizes[2]; k >= 0; k--) {
                        at[0] = i;
                        at[1] = j;
                        at[2] = k;
                        int take = bestTake();
                        costs[cell(i, j, k)] = take == 0 ? 0 : costBehind(take);
                    }
                }
            }
            writeRows();
            return costs[0];
        }

        /** The rolls that the next row takes of; 0 at the end of all. */
        private int bestTake() {
            int best = 0;
            int least = 0;
            for (int t = 0; t < TAKES.length; t++) {
                if (canTake(TAKES[t])) {
                    int cost = costBehind(TAKES[t]);
                    if (best == 0 || cost < least) {
                        best = TAKES[t];
                        least = cost;
                    }
                }
            }
            return best;
        }

        private void writeRows() {
            Arrays.fill(at, 0);
            rowCount = 0;
            int take = bestTake();
            while (take != 0 && rowCount < ROLLS * MOST_LINES) {
                for (int r = 0; r < ROLLS; r++) {
                    boolean takes = (take >> r & 1) == 1;
                    rows[rowCount * ROLLS + r] = takes ? at[r] : NONE;
                    at[r] += takes ? 1 : 0;
                }
                rowCount++;
                take = bestTake();
            }
        }

        int tellOfRow(int i, int what) {
            if (i < 0 || i >= rowCount || !within(what, 0, ROLLS)) {
                return ABSENT;
            }
            if (what < ROLLS) {
                return rows[i * ROLLS + what];
            }
            return isSure(i) ? 1 : 0;
        }

        private boolean isSure(int i) {
            for (int r = 0; r < ROLLS; r++) {
                for (int q = 0; q < r; q++) {
                    int a = rows[i * ROLLS + r];
                    int b = rows[i * ROLLS + q];
                    if (a != NONE && b != NONE
                            && lines[r * MOST_LINES + a] == lines[q * MOST_LINES + b]) {
                        return true;
                    }
                }
            }
            return false;
        }
    }
}
