import java.io.IOException;
import java.lang.reflect.Method;
import java.lang.reflect.Modifier;
import java.net.URL;
import java.net.URLClassLoader;
import java.nio.file.Files;
import java.nio.file.Path;
import java.util.ArrayList;
import java.util.Comparator;
import java.util.List;
import java.util.Set;
import java.util.TreeSet;
import java.util.function.Supplier;
import java.util.regex.Matcher;
import java.util.regex.Pattern;
import java.util.stream.Stream;
import javax.tools.ToolProvider;

/** README.md is read itself, so that what it shows can't drift away from what the class does. */
public final class ReadmeTest {
    private static final Path README = Path.of("README.md");
    private static final Path COMMAND = Path.of(".ci/run");
    private static final Path TESTS = Path.of("src/test/java");
    private static final String MAKING = "DriftLog log = new DriftLog();";
    private static final Pattern CALL = Pattern.compile("(log\\.(\\w+)\\(.*?\\)); *(// (.*))?");
    private static final Pattern TEST_IN_TABLE = Pattern.compile("\\| `(\\w+)` \\|.*");

    public static void main(String[] args) throws Exception {
        List<String> readme = Files.readAllLines(README);
        example(block(readme, "java"));
        command(block(readme, "sh"));
        tableOfTests(readme);
        Check.end();
    }

    private static List<String> block(List<String> readme, String language) {
        int begin = readme.indexOf("```" + language) + 1;
        List<String> rest = readme.subList(begin, readme.size());
        return begin == 0 ? List.of() : rest.subList(0, Math.max(0, rest.indexOf("```")));
    }

    private static void example(List<String> lines) throws Exception {
        Check.sentence("README.md, the example");
        List<Matcher> calls = new ArrayList<>();
        List<String> others = new ArrayList<>();
        for (String line : lines) {
            Matcher call = CALL.matcher(line);
            if (call.matches()) {
                calls.add(call);
            } else if (!line.isEmpty() && !line.startsWith("//")) {
                others.add(line);
            }
        }
        Check.due("lines that are no calls", () -> others, List.of(MAKING));
        Set<String> shown = new TreeSet<>();
        List<Supplier<Object>> compiled = compiled(lines, calls);
        for (int i = 0; i < calls.size(); i++) {
            Supplier<Object> call = compiled.get(i);
            shown.add(calls.get(i).group(2));
            Check.due(calls.get(i).group(1), () -> call.get(), answer(calls.get(i).group(4)));
        }
        Check.due("the calls that are shown", () -> shown, face());
    }

    /** What stands behind a call, up to a colon; a call with nothing behind it has no answer. */
    private static String answer(String comment) {
        String told = comment == null ? "nothing" : comment.split(":")[0];
        return told.replace("throws ", "throws.");
    }

    /** The example is compiled as it stands, and each of its calls once more, so that it can be asked alone. */
    private static List<Supplier<Object>> compiled(List<String> lines, List<Matcher> calls) throws Exception {
        StringBuilder source = new StringBuilder("public class Example {\n static void asItStands() {\n");
        source.append(String.join("\n", lines)).append("\n }\n");
        source.append(" public static void calls(java.util.List<java.util.function.Supplier<Object>> all) {\n");
        source.append(MAKING).append("\n");
        for (Matcher call : calls) {
            source.append("all.add(() -> ").append(body(call)).append(");\n");
        }
        Path directory = Files.createTempDirectory("readme");
        try {
            return loaded(directory, source.append(" }\n}\n").toString());
        } finally {
            remove(directory);
        }
    }

    /** A call that has no answer, or throws, may be one of void. */
    private static String body(Matcher call) {
        boolean hasAnswer = call.group(4) != null && !call.group(4).startsWith("throws ");
        return hasAnswer ? call.group(1) : "{ " + call.group(1) + "; return \"nothing\"; }";
    }

    private static List<Supplier<Object>> loaded(Path directory, String source) throws Exception {
        Path file = Files.writeString(directory.resolve("Example.java"), source);
        String classes = System.getProperty("java.class.path");
        int failed = ToolProvider.getSystemJavaCompiler().run(null, null, null, "-cp", classes, "-d", directory.toString(), file.toString());
        if (failed != 0) {
            throw new IllegalStateException("the example of README.md does not compile");
        }
        List<Supplier<Object>> all = new ArrayList<>();
        try (URLClassLoader loader = new URLClassLoader(new URL[] {directory.toUri().toURL()})) {
            loader.loadClass("Example").getMethod("calls", List.class).invoke(null, all);
        }
        return all;
    }

    private static void remove(Path directory) throws IOException {
        try (Stream<Path> all = Files.walk(directory)) {
            for (Path path : all.sorted(Comparator.reverseOrder()).toList()) {
                Files.delete(path);
            }
        }
    }

    private static Set<String> face() {
        Set<String> names = new TreeSet<>();
        for (Method method : DriftLog.class.getDeclaredMethods()) {
            if (Modifier.isPublic(method.getModifiers())) {
                names.add(method.getName());
            }
        }
        return names;
    }

    private static void command(List<String> lines) {
        Check.sentence("README.md, how to run the tests");
        Check.due("the command", () -> lines, List.of(COMMAND.toString()));
        Check.due("it can be run", () -> Files.isExecutable(COMMAND), true);
    }

    private static void tableOfTests(List<String> readme) throws IOException {
        Check.sentence("README.md, the table of tests");
        Set<String> told = new TreeSet<>();
        for (String line : readme) {
            Matcher row = TEST_IN_TABLE.matcher(line);
            if (row.matches()) {
                told.add(row.group(1));
            }
        }
        Set<String> there = new TreeSet<>();
        try (Stream<Path> files = Files.list(TESTS)) {
            files.map(file -> file.getFileName().toString()).filter(name -> name.endsWith("Test.java"))
                    .forEach(name -> there.add(name.replace(".java", "")));
        }
        Check.due("the tests", () -> told, there);
    }
}
