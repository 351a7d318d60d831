/** Boundary cases of ROLLS and how they are JOINED: Terms VII, promises 63 to 65. */
public final class EdgeRollTest extends Edges {
    private static final int NO = NONE;

    public static void main(String[] args) {
        new EdgeRollTest().test();
    }

    @Override
    void sentences() {
        in("VII");
        edge("three, each of at most 10 LINES", this::mostLines);
        edge("a LINE is a MATTER 0 .. 99 and a mark 0 .. 9", this::lineBounds);
        edge("rows that have of each roll one LINE or none (at least one of all)", this::atLeastOne);
        edge("a row costs 0 if all three have alike LINES", this::alike);
        edge("1 for each one that lacks", this::lacks);
        edge("1 for each two of them with unlike marks of one MATTER", this::unlikeMarks);
        edge("4 for each two of unlike MATTERS", this::unlikeMatters);
        edge("least in sum", this::leastInSum);
        edge("from the first row on, that which takes of more rolls, then of the lesser ones", this::ties);
        edge("SURE is a row, if two or more have alike LINES", this::sure);
        in("63");
        edge("THE TAPE is a ROLL (0 .. 2)", this::whichRoll);
        edge("three figures a LINE (two of the MATTER, one of the mark): how many LINES", this::howManyLines);
        edge("RANGE; NONE: it is none", this::noRoll);
        in("64");
        edge("The ROLLS are JOINED: what it costs", this::whatItCosts);
        in("65");
        edge("what 0 .. 2: the LINE of that ROLL (NONE: it lacks), 3: 1 if SURE, else 0", this::whats);
        edge("-9 when there is none such, or a roll() was told since", this::noSuchRow);
    }

    private static AssizeRide rolls(String first, String second, String third) {
        AssizeRide x = new AssizeRide();
        say(x, first).roll(0);
        say(x, second).roll(1);
        say(x, third).roll(2);
        return x;
    }

    /** The cost and the rows, four numbers each: a LINE of each roll, and whether it is SURE. */
    private void join(String first, String second, String third, int cost, int... rows) {
        AssizeRide x = rolls(first, second, third);
        String name = "join of " + first + "," + second + "," + third;
        due(name, x.join(), cost);
        for (int i = 0; i < rows.length; i++) {
            due(name + ": joined(" + i / 4 + ", " + i % 4 + ")", x.joined(i / 4, i % 4), rows[i]);
        }
        due(name + ": no row more", x.joined(rows.length / 4, 0), ABSENT);
    }

    private void mostLines() {
        String ten = "000111222333444555666777888999";
        for (int r = 0; r < 3; r++) {
            AssizeRide x = new AssizeRide();
            due("ten lines of roll " + r, say(x, ten).roll(r), 10);
            due("eleven lines of roll " + r, say(x, ten + "123").roll(r), NONE);
            due("400 lines of roll " + r, say(x, repeat("123", 400)).roll(r), NONE);
            due("the ten stay", x.join(), 20);
            due("the last row", x.joined(9, r), 9);
            due("none behind it", x.joined(10, r), ABSENT);
        }
        AssizeRide y = rolls(ten, ten, ten);
        due("ten of each alike", y.join(), 0);
        due("row 9", y.joined(9, 2), 9);
        due("row 10", y.joined(10, 0), ABSENT);
        AssizeRide z = rolls(ten, "101212323434545656767878989090", "202313424535646757868979080191");
        due("thirty rows of one each", z.join(), 60);
        due("row 29", z.joined(29, 2), 9);
        due("row 30", z.joined(30, 2), ABSENT);
    }

    private void lineBounds() {
        due("the least", say(new AssizeRide(), "000").roll(0), 1);
        due("the greatest", say(new AssizeRide(), "999").roll(0), 1);
        join("990", "999", "", 2, 0, 0, NO, 0);
        join("000", "009", "", 2, 0, 0, NO, 0);
        join("099", "100", "", 4, 0, NO, NO, 0, NO, 0, NO, 0);
        join("019", "020", "", 4, 0, NO, NO, 0, NO, 0, NO, 0);
    }

    private void atLeastOne() {
        join("", "", "", 0);
        join("123", "", "", 2, 0, NO, NO, 0);
        join("", "123", "", 2, NO, 0, NO, 0);
        join("", "", "123", 2, NO, NO, 0, 0);
    }

    private void alike() {
        join("123", "123", "123", 0, 0, 0, 0, 1);
        join("000999", "000999", "000999", 0, 0, 0, 0, 1, 1, 1, 1, 1);
    }

    private void lacks() {
        join("123", "123", "", 1, 0, 0, NO, 1);
        join("123", "", "123", 1, 0, NO, 0, 1);
        join("", "123", "123", 1, NO, 0, 0, 1);
        join("123", "", "", 2, 0, NO, NO, 0);
    }

    private void unlikeMarks() {
        join("123", "123", "124", 2, 0, 0, 0, 1);
        join("120", "121", "129", 3, 0, 0, 0, 0);
        join("120", "121", "", 2, 0, 0, NO, 0);
    }

    /** One row of two unlike MATTERS would cost 5, two rows of one LINE each cost 4. */
    private void unlikeMatters() {
        join("123", "223", "", 4, 0, NO, NO, 0, NO, 0, NO, 0);
        join("123", "123", "223", 3, 0, 0, NO, 1, NO, NO, 0, 0);
        join("123", "124", "223", 4, 0, 0, NO, 0, NO, NO, 0, 0);
        join("123", "223", "323", 6, 0, NO, NO, 0, NO, 0, NO, 0, NO, NO, 0, 0);
    }

    private void leastInSum() {
        join("111222", "222", "222", 2, 0, NO, NO, 0, 1, 0, 0, 1);
        join("111222", "222111", "", 5, 0, NO, NO, 0, 1, 0, NO, 1, NO, 1, NO, 0);
        join("111", "222111", "111", 2, NO, 0, NO, 0, 0, 1, 0, 1);
    }

    private void ties() {
        join("111111", "111", "111", 2, 0, 0, 0, 1, 1, NO, NO, 0);
        join("111111", "111", "", 3, 0, 0, NO, 1, 1, NO, NO, 0);
        join("111", "222", "222", 3, NO, 0, 0, 1, 0, NO, NO, 0);
        join("111", "222", "111", 3, 0, NO, 0, 1, NO, 0, NO, 0);
        join("111", "222", "", 4, 0, NO, NO, 0, NO, 0, NO, 0);
        join("", "111", "222", 4, NO, 0, NO, 0, NO, NO, 0, 0);
    }

    private void sure() {
        String[][] rolls = {{"123", "123", "123"}, {"123", "123", "124"}, {"123", "124", "123"}, {"124", "123", "123"},
            {"123", "124", "125"}, {"123", "123", ""}, {"123", "", "123"}, {"", "123", "123"}, {"123", "124", ""}, {"123", "", ""}};
        int[] want = {1, 1, 1, 1, 0, 1, 1, 1, 0, 0};
        for (int i = 0; i < rolls.length; i++) {
            AssizeRide x = rolls(rolls[i][0], rolls[i][1], rolls[i][2]);
            x.join();
            due("sure is " + String.join(",", rolls[i]), x.joined(0, 3), want[i]);
        }
    }

    private void whichRoll() {
        within("roll", 0, 2, RANGE, r -> say(new AssizeRide(), "123").roll(r));
        for (int r : new int[] {LEAST, -1, 3, MOST}) {
            refusedReader("roll " + r, () -> say(joined(), "123"), x -> x.roll(r), RANGE);
            due("ahead of NONE", say(new AssizeRide(), "12").roll(r), RANGE);
        }
    }

    private static AssizeRide joined() {
        AssizeRide x = rolls("123456", "123", "456");
        x.join();
        return x;
    }

    private void howManyLines() {
        due("none", say(new AssizeRide(), "").roll(0), 0);
        for (int n = 1; n <= 10; n++) {
            due(n + " lines", say(new AssizeRide(), repeat("123", n)).roll(0), n);
        }
        AssizeRide x = joined();
        say(x, "").roll(0);
        due("an empty roll in a longer one's place", x.join(), 4);
    }

    private void noRoll() {
        String[] wrong = {"1", "12", "1234", "12345", "12a", "a12", "1 2", " 123", "123 ", "123 456", "1/3", "1:3", "12;", "-12",
            repeat("123", 11), repeat("1", 29), repeat("1", 31)};
        for (String text : wrong) {
            refusedReader("roll of " + text, () -> say(joined(), text), x -> x.roll(0), NONE);
        }
        AssizeRide x = joined();
        say(x, "12").roll(0);
        due("the roll stays", x.join(), 2);
    }

    private void whatItCosts() {
        due("of a new object", new AssizeRide().join(), 0);
        AssizeRide x = joined();
        due("again", x.join(), 2);
        due("and again", x.join(), 2);
        due("its rows", x.joined(1, 2), 0);
        due("no more of them", x.joined(2, 0), ABSENT);
    }

    private void whats() {
        AssizeRide x = joined();
        int[] want = {0, 0, NO, 1, 1, NO, 0, 1};
        for (int i = 0; i < want.length; i++) {
            due("joined(" + i / 4 + ", " + i % 4 + ")", x.joined(i / 4, i % 4), want[i]);
        }
        within("what", 0, 3, ABSENT, what -> joined().joined(0, what));
    }

    private void noSuchRow() {
        due("of a new object", new AssizeRide().joined(0, 0), ABSENT);
        due("ahead of any join", rolls("123", "", "").joined(0, 0), ABSENT);
        within("row", 0, 1, ABSENT, i -> joined().joined(i, 0));
        for (int r = 0; r < 3; r++) {
            AssizeRide x = joined();
            say(x, "123").roll(r);
            due("roll " + r + " was told since", x.joined(0, 0), ABSENT);
            x.join();
            due("joined again", x.joined(0, 3) >= 0 ? 1 : 0, 1);
        }
        AssizeRide y = joined();
        say(y, "").roll(0);
        due("an empty roll was told since", y.joined(0, 0), ABSENT);
    }
}
