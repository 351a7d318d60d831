import java.nio.file.Files;
import java.nio.file.Path;
import java.util.HashSet;
import java.util.Set;
import java.util.regex.Matcher;
import java.util.regex.Pattern;

/** The rules of LANGUAGE.md that can be seen in the text of the class. */
public final class LanguageTest {
    private static final Clerk c = new Clerk();

    public static void main(String[] args) throws Exception {
        String text = Files.readString(Path.of("src/main/java/AssizeRide.java"));
        String code = text.replaceAll("(?s)/\\*.*?\\*/", "").replaceAll("//[^\n]*", "").replaceAll("\"[^\"\n]*\"", "\"\"");
        words(code);
        imports(code);
        members(code);
        methods(code);
        c.close();
    }

    private static int count(String code, String pattern) {
        Matcher m = Pattern.compile(pattern).matcher(code);
        int n = 0;
        while (m.find()) {
            n++;
        }
        return n;
    }

    private static void words(String code) {
        String[] none = {"\\bthrow\\b", "\\btry\\b", "\\bcatch\\b", "\\bsynchronized\\b", "\\bassert\\b", "->", "::",
            "\\bhashCode\\b", "\\btoString\\b", "\\bstatic \\{", "Exact\\b", "\\bpackage\\b", "\\bprotected\\b",
            "\\bSystem\\.(?!arraycopy)", "\\bThread\\b", "\\bRandom\\b", "\\bnull ==", "\" \\+", "\\+ \""};
        for (String pattern : none) {
            c.due("how often " + pattern, count(code, pattern), 0);
        }
        c.due("signs beyond 127", count(code, "[^\\x00-\\x7f]"), 0);
    }

    private static void imports(String code) {
        c.due("imports", count(code, "(?m)^import "), 1);
        c.due("import of Arrays", count(code, "(?m)^import java\\.util\\.Arrays;"), 1);
        c.due("Arrays by fill, copyOf, copyOfRange alone", count(code, "Arrays\\.(?!fill|copyOf|copyOfRange)"), 0);
    }

    private static void members(String code) {
        c.due("classes", count(code, "\\bclass \\w+") <= 12 ? 1 : 0, 1);
        c.due("classes inside are private and static", count(code, "(?m)^    .*\\bclass \\w+"),
                count(code, "(?m)^    private static final class \\w+"));
        c.due("public members", count(code, "(?m)^    public "), 68 + 4 + 1);
        c.due("package-visible members", count(code, "(?m)^    (?!public |private |\\}| |//|/\\*)\\S"), 0);
        c.due("static fields that aren't final", count(code, "(?m)^ +(private )?static (?!final )[\\w\\[\\]]+ \\w+( =|;)"), 0);
        c.due("public members of classes inside", count(code, "(?m)^     +public "), 0);
    }

    private static void methods(String code) {
        Set<String> face = new HashSet<>();
        Matcher m = Pattern.compile("(?m)^    public int (\\w+)\\(").matcher(code);
        while (m.find()) {
            face.add(m.group(1));
        }
        c.due("methods of the face", face.size(), 68);
        m = Pattern.compile("(?m)^( +)(?:private |static |public )*(?:int|long|boolean|void|\\w+) (\\w+)\\(([^)]*)\\) \\{$").matcher(code);
        while (m.find()) {
            boolean isPublic = code.startsWith("    public", m.start());
            c.due("a private method named as one of the face: " + m.group(2), !isPublic && face.contains(m.group(2)) ? 1 : 0, 0);
            c.due("parameters of " + m.group(2), m.group(3).split(",").length <= 7 ? 1 : 0, 1);
            int end = code.indexOf("\n" + m.group(1) + "}", m.start());
            c.due("lines of " + m.group(2), code.substring(m.start(), end).split("\n").length <= 60 ? 1 : 0, 1);
        }
    }
}
