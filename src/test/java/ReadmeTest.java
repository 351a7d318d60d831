import java.lang.reflect.Method;
import java.lang.reflect.Modifier;
import java.nio.file.Files;
import java.nio.file.Path;
import java.util.ArrayList;
import java.util.List;
import java.util.regex.Matcher;
import java.util.regex.Pattern;
import javax.tools.ToolProvider;

/** The run in README.md answers as it says there, and the page names every call, constant and test. */
public final class ReadmeTest {
    private static final Clerk c = new Clerk();

    public static void main(String[] args) throws Exception {
        String page = Files.readString(Path.of("README.md"));
        namesEveryCall(page);
        namesEveryTest(page);
        playRun(page);
        c.close();
    }

    private static void namesEveryCall(String page) {
        int calls = 0;
        for (Method call : AssizeRide.class.getDeclaredMethods()) {
            if (Modifier.isPublic(call.getModifiers())) {
                Matcher m = Pattern.compile("(?m)^\\| `" + call.getName() + "\\(([^)]*)\\)` \\| \\S").matcher(page);
                c.due("a row for " + call.getName(), m.find() ? 1 : 0, 1);
                c.due("arguments of " + call.getName(), m.group(1).isEmpty() ? 0 : m.group(1).split(", ").length,
                        call.getParameterCount());
                calls++;
            }
        }
        c.due("calls", calls, 68);
        int[] codes = {AssizeRide.NONE, AssizeRide.RANGE, AssizeRide.FULL, AssizeRide.STATE};
        String[] names = {"NONE", "RANGE", "FULL", "STATE"};
        for (int i = 0; i < codes.length; i++) {
            c.due("a row for " + names[i], page.contains("| " + codes[i] + " | `" + names[i] + "` |") ? 1 : 0, 1);
        }
    }

    private static void namesEveryTest(String page) throws Exception {
        try (var files = Files.list(Path.of("src/test/java"))) {
            for (Path file : (Iterable<Path>) files::iterator) {
                String name = file.getFileName().toString().replace(".java", "");
                if (name.endsWith("Test")) {
                    c.due("a row for " + name, page.contains("`" + name + "`") ? 1 : 0, 1);
                }
            }
        }
    }

    private static List<String> blocks(String page) {
        List<String> blocks = new ArrayList<>();
        Matcher m = Pattern.compile("(?s)```java\n(.*?)```").matcher(page);
        while (m.find()) {
            blocks.add(m.group(1));
        }
        return blocks;
    }

    /** Compiles the page's say() and its run, where each call with a number behind it asks for that number. */
    private static void playRun(String page) throws Exception {
        List<String> blocks = blocks(page);
        c.due("blocks of Java", blocks.size(), 2);
        Matcher answers = Pattern.compile("(?m)^(x\\.\\w+\\(.*?\\)); +// (-?\\d+)").matcher(blocks.get(1));
        c.due("every call has an answer", answers.results().count(), Pattern.compile("(?m)^x\\.").matcher(blocks.get(1)).results().count());
        String run = answers.reset().replaceAll("told[asked++] = new int[] {$1, $2}; //");
        Path where = Files.createTempDirectory("readme");
        Path source = where.resolve("PageRun.java");
        Files.writeString(source, "public final class PageRun {\n" + blocks.get(0) + "public static int[][] play() {\n"
                + "int asked = 0;\nint[][] told = new int[100][];\n" + run + "return java.util.Arrays.copyOf(told, asked);\n}\n}\n");
        int compiled = ToolProvider.getSystemJavaCompiler().run(null, null, null, "-d", where.toString(),
                "-cp", System.getProperty("java.class.path"), source.toString());
        c.due("the page's code is compiled", compiled, 0);
        try (var loader = new java.net.URLClassLoader(new java.net.URL[] {where.toUri().toURL()})) {
            int[][] told = (int[][]) loader.loadClass("PageRun").getMethod("play").invoke(null);
            answers.reset();
            for (int i = 0; i < told.length && answers.find(); i++) {
                c.due("in the page's run " + answers.group(1), told[i][0], told[i][1]);
            }
            c.due("the page's run has calls", told.length > 20 ? 1 : 0, 1);
        }
        for (String name : new String[] {"PageRun.class", "PageRun.java", ""}) {
            Files.delete(where.resolve(name));
        }
    }
}
