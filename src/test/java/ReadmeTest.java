import java.io.ByteArrayOutputStream;
import java.io.IOException;
import java.io.PrintStream;
import java.net.URL;
import java.net.URLClassLoader;
import java.nio.file.Files;
import java.nio.file.Path;
import java.util.ArrayList;
import java.util.List;
import java.util.Set;
import java.util.TreeSet;
import java.util.regex.Matcher;
import java.util.regex.Pattern;
import javax.tools.JavaCompiler;
import javax.tools.ToolProvider;

/** README.md: its example is compiled and run, and its tables of calls are laid beside the document's promises. */
public final class ReadmeTest {
    private static final Path README = Path.of("README.md");
    private static final Path DOC = Path.of("../shared/DOC.md");
    private static final Set<String> REFUSED_BY_LEAST_INT = Set.of("at", "least", "span");

    public static void main(String[] args) throws IOException, ReflectiveOperationException {
        String readme = Files.readString(README);
        example(readme);
        calls(readme, Files.readString(DOC));
        tests(readme);
        Due.end();
    }

    private static void example(String readme) throws IOException, ReflectiveOperationException {
        List<String> code = found("(?s)```java\n(.*?)```", readme);
        Due.due("examples in README.md", code.size(), 1);
        if (code.size() != 1) {
            return;
        }
        List<String> told = found("System\\.out\\.println\\(x\\.\\w+\\(.*\\)\\); +// (-?\\d+)(?:: .*)?\n", code.get(0));
        List<String> printed = outputOf(code.get(0));
        Due.due("answers that the example prints", printed.size(), told.size());
        for (int i = 0; i < Math.min(printed.size(), told.size()); i++) {
            Due.due("the example's println " + i, Long.parseLong(printed.get(i)), Long.parseLong(told.get(i)));
        }
    }

    private static List<String> outputOf(String code) throws IOException, ReflectiveOperationException {
        Path folder = Files.createTempDirectory("readme");
        Path source = Files.writeString(folder.resolve("Example.java"), code);
        JavaCompiler compiler = ToolProvider.getSystemJavaCompiler();
        int result = compiler.run(null, null, null, "-cp", System.getProperty("java.class.path"),
            "-d", folder.toString(), source.toString());
        Due.due("javac of the example", result, 0);
        List<String> lines = result == 0 ? run(folder) : List.of();
        for (String name : new String[] {"Example.class", "Example.java", ""}) {
            Files.deleteIfExists(folder.resolve(name));
        }
        return lines;
    }

    private static List<String> run(Path folder) throws IOException, ReflectiveOperationException {
        PrintStream screen = System.out;
        ByteArrayOutputStream caught = new ByteArrayOutputStream();
        try (URLClassLoader loader = new URLClassLoader(new URL[] {folder.toUri().toURL()})) {
            System.setOut(new PrintStream(caught, true));
            loader.loadClass("Example").getMethod("main", String[].class).invoke(null, (Object) new String[0]);
        } finally {
            System.setOut(screen);
        }
        return caught.toString().lines().toList();
    }

    /** Each call of the document has one row, with the same names of its numbers and the same refusals. */
    private static void calls(String readme, String doc) {
        List<String> promised = found("(?m)^`int (\\w+\\(.*?\\))`: ", doc);
        Due.due("calls that the document promises", promised.size(), 35);
        List<String> told = found("(?m)^\\| `(\\w+\\(.*?\\))` \\|", readme);
        Due.due("calls in README.md", told.size(), promised.size());
        for (String signature : promised) {
            String call = signature.replaceAll("\\b(int|long) ", "");
            String name = call.substring(0, call.indexOf('('));
            List<String> rows = found("(?m)^\\| `" + Pattern.quote(call) + "` \\| .* \\| ?(.*) ?\\|$", readme);
            Due.due("rows of README.md for " + call, rows.size(), 1);
            if (rows.size() == 1) {
                refusals(name, rows.get(0).trim(), promiseOf(signature, doc));
            }
        }
    }

    private static void refusals(String name, String told, String promise) {
        if (REFUSED_BY_LEAST_INT.contains(name)) {
            Due.holds(name + " is refused by the least int", told.equals("the least int")
                && promise.contains("The least int: "));
            return;
        }
        Set<String> due = new TreeSet<>(found("\\b(UNKNOWN|OUTSIDE|NOT|FULL)\\b", promise));
        Set<String> got = new TreeSet<>(found("`(\\w+)`", told));
        Due.holds("README.md has the refusals " + due + " of " + name + ", not " + got, got.equals(due));
    }

    private static String promiseOf(String signature, String doc) {
        List<String> text = found("(?m)^`int " + Pattern.quote(signature) + "`: (.*)$", doc);
        return text.isEmpty() ? "" : text.get(0);
    }

    /** Each test of the project is named. */
    private static void tests(String readme) throws IOException {
        try (var files = Files.list(Path.of("src/test/java"))) {
            for (Path file : files.toList()) {
                String name = file.getFileName().toString().replace(".java", "");
                if (name.endsWith("Test")) {
                    Due.holds("README.md names " + name, readme.contains("\n| " + name + " | "));
                }
            }
        }
    }

    private static List<String> found(String pattern, String text) {
        List<String> all = new ArrayList<>();
        Matcher matcher = Pattern.compile(pattern).matcher(text);
        while (matcher.find()) {
            all.add(matcher.group(1));
        }
        return all;
    }
}
