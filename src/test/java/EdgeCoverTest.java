import java.nio.file.Files;
import java.nio.file.Path;
import java.util.ArrayList;
import java.util.LinkedHashMap;
import java.util.List;
import java.util.Map;
import java.util.Set;
import java.util.regex.Matcher;
import java.util.regex.Pattern;

/** Every quote of the Edge tests stands in the document where they say, and each part of the document has one or names no boundary. */
public final class EdgeCoverTest {
    private static final Clerk c = new Clerk();
    // Parts that tell what something is or answers, and no end of it; other tests ask for them.
    private static final Set<String> NAMES_NO_BOUNDARY = Set.of(
            "what later calls answer is free",
            "`int told(int a, int what)`: Of ACT a, what 0: first day, 1: SHIRES, 2: clauses",
            "`int crown(int p, int shire, int hundred, int day)`: THE TAPE is the deed's W: a CROWN MATTER begins: its number",
            "`int words(int m)`: THE TAPE has the WORDS of an INDICTMENT: how many",
            "`int bad(int m)`: How BAD the INDICTMENT of a CROWN MATTER is",
            "`int bill(int m, int votes)`: A BILL: the STATE then",
            "`int witness(int m, int p)`: One is a witness of a MATTER: how many it has",
            "`int hear(int m)`: THE TAPE is the row of FACTS that are FOUND: the STATE then",
            "`int left(int i, int what)`: The i-th who was LEFT by the latest deliver(), what 0: who, 1: by which MATTER",
            "`int rode(int i, int what)`: Of the ride, what 0: its i-th SHIRE, 1: the day on which it is reached",
            "COND = ALL {\"or\" ALL}",
            "ALL = ONE {\"and\" ONE}",
            "SUM = TERM {\"+\" TERM}",
            "TERM = W | N",
            "The deed is MADE, if its condition holds",
            "STATES: 0 BEGUN, 1 NO BILL, 2 TRUE BILL, 3 GUILTY, 4 NOT GUILTY, 5 JUDGED, 6 BENEFIT, 7 KEPT, 8 PARDONED, 9 BROKEN",
            "The row is woven from the front: where it and THE LAW go on with the same word, that one (both go on)",
            "SEEN: one is in a SHIRE on the CLOCK's day");

    public static void main(String[] args) throws Exception {
        Path path = Path.of("../shared/DOC.md");
        if (!Files.exists(path)) {
            System.out.println("there is no document beside the project: nothing to compare the quotes with");
            return;
        }
        Map<String, String> sections = sections(Files.readString(path));
        c.due("sections", sections.size(), 1 + 69 + 8);
        Map<String, boolean[]> quoted = new LinkedHashMap<>();
        sections.forEach((name, text) -> quoted.put(name, new boolean[text.length()]));
        for (String[] quote : quotes()) {
            mark(quote[0], plain(quote[1]), sections, quoted);
        }
        sections.forEach((name, text) -> lookAtParts(name, text, quoted.get(name)));
        c.close();
    }

    private static List<String[]> quotes() {
        Edges[] tests = {new EdgeTapeTest(), new EdgePeopleTest(), new EdgeActTest(), new EdgeLawTest(), new EdgeMatterTest(),
            new EdgeJuryTest(), new EdgeJudgementTest(), new EdgeGaolTest(), new EdgeOrderTest(), new EdgeRideTest(),
            new EdgeRollTest(), new EdgeWasTest()};
        List<String[]> quotes = new ArrayList<>();
        for (Edges test : tests) {
            quotes.addAll(test.collect());
        }
        return quotes;
    }

    private static String plain(String text) {
        return text.replace("```text", " ").replace("```", " ").replaceAll("\\s+", " ").trim();
    }

    /** The promises by number, the Terms by theirs, and what it is (without its first paragraph, which the class repeats). */
    private static Map<String, String> sections(String document) {
        Map<String, String> sections = new LinkedHashMap<>();
        Matcher m = Pattern.compile("(?ms)^## (What it is|Promise (\\d+)).*?$(.*?)(?=^## |\\z)").matcher(document);
        while (m.find()) {
            String text = m.group(2) == null ? m.group(3).substring(m.group(3).indexOf("An object")) : m.group(3);
            sections.put(m.group(2) == null ? m.group(1) : m.group(2), plain(text));
        }
        m = Pattern.compile("(?ms)^([IV]+)\\. (.*?)(?=^[IV]+\\. |^Ahead of the calls|\\z)").matcher(document);
        while (m.find()) {
            sections.put(m.group(1), plain(m.group(2)));
        }
        return sections;
    }

    private static void mark(String name, String quote, Map<String, String> sections, Map<String, boolean[]> quoted) {
        int at = sections.getOrDefault(name, "").indexOf(quote);
        c.due(name + " has \"" + quote + "\"", at >= 0 ? 1 : 0, 1);
        for (int i = 0; at >= 0 && i < quote.length(); i++) {
            quoted.get(name)[at + i] = true;
        }
    }

    /** A part ends with a full stop or a semicolon that a blank follows. */
    private static void lookAtParts(String name, String text, boolean[] quoted) {
        int start = 0;
        for (int i = 0; i <= text.length(); i++) {
            boolean isSign = i < text.length() && (text.charAt(i) == '.' || text.charAt(i) == ';');
            if (i == text.length() || isSign && (i + 1 == text.length() || text.charAt(i + 1) == ' ')) {
                String part = text.substring(start, i).trim();
                boolean has = part.isEmpty() || NAMES_NO_BOUNDARY.contains(part);
                for (int j = start; j < i; j++) {
                    has |= quoted[j];
                }
                c.due(name + ": a test of \"" + part + "\"", has ? 1 : 0, 1);
                start = i + 1;
            }
        }
    }
}
