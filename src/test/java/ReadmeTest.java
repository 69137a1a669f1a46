import java.io.IOException;
import java.io.UncheckedIOException;
import java.net.MalformedURLException;
import java.net.URL;
import java.net.URLClassLoader;
import java.nio.file.Files;
import java.nio.file.Path;
import java.util.ArrayList;
import java.util.List;
import java.util.TreeSet;
import java.util.regex.Matcher;
import java.util.regex.Pattern;
import java.util.stream.Stream;
import javax.tools.JavaCompiler;
import javax.tools.ToolProvider;

/** What README.md says holds: its examples give the answers beside them, its command and its tests are there. */
public final class ReadmeTest {
    private static final Path README = Path.of("README.md");
    private static final Path TESTS = Path.of("src/test/java");
    private static final Path FOLDER = Path.of("build/readme");

    /** A line of the example: a statement that may name its answer, and what stands beside it. */
    private static final Pattern LINE =
            Pattern.compile("(int (\\w+) = )?(.+?);\\s*// (answers|throws) ([-\\w]+)(:.*)?");

    private static final Check CHECK = new Check();

    private ReadmeTest() {
    }

    public static void main(String[] args) throws IOException, ReflectiveOperationException {
        String text = Files.readString(README);
        example(block(text, "java"));
        everyCallIsShown(block(text, "java"));
        command(block(text, "sh"));
        namedTests(text);
        CHECK.end();
    }

    private static List<String> block(String text, String language) {
        String[] parts = text.split("```");
        List<String> found = new ArrayList<>();
        for (int i = 1; i < parts.length; i += 2) {
            if (parts[i].startsWith(language + "\n")) {
                found.addAll(parts[i].lines().skip(1).filter(line -> !line.isBlank()).toList());
            }
        }
        CHECK.no("README.md has no example in " + language, found.isEmpty());
        return found;
    }

    private static void example(List<String> lines) throws IOException, ReflectiveOperationException {
        List<String> due = new ArrayList<>();
        List<String> asked = new ArrayList<>();
        StringBuilder source = new StringBuilder("public final class Example {\n"
                + "public static void run(java.util.List<String> got) {\n");
        for (String line : lines) {
            Matcher parts = LINE.matcher(line);
            if (parts.matches()) {
                asked.add(line);
                due.add(parts.group(5));
                source.append(parts.group(1) == null ? asking(parts.group(3)) : naming(line, parts.group(2)));
            } else {
                CHECK.yes("no answer stands beside: " + line, line.matches("RelationRows \\w = new RelationRows.*"));
                source.append(line).append('\n');
            }
        }
        List<String> got = run(source.append("}\n}\n").toString());
        CHECK.same("answers of the example", got.size(), due.size());
        CHECK.yes("the example has answers", due.size() > 0);
        for (int i = 0; i < Math.min(got.size(), due.size()); i++) {
            CHECK.sameText(asked.get(i), got.get(i), due.get(i));
        }
    }

    private static String asking(String call) {
        return "try { got.add(\"\" + " + call + "); }\n"
                + "catch (RuntimeException e) { got.add(e.getClass().getSimpleName()); }\n";
    }

    private static String naming(String line, String name) {
        return line + "\ngot.add(\"\" + " + name + ");\n";
    }

    private static List<String> run(String source) throws IOException, ReflectiveOperationException {
        Files.createDirectories(FOLDER);
        Path file = FOLDER.resolve("Example.java");
        Files.writeString(file, source);
        List<String> got = new ArrayList<>();
        JavaCompiler compiler = ToolProvider.getSystemJavaCompiler();
        if (compiler == null) {
            throw new AssertionError("there is no javac");
        }
        int failed = compiler.run(null, null, null, "-cp", System.getProperty("java.class.path"),
                "-d", FOLDER.toString(), file.toString());
        CHECK.same("the example compiles: javac", failed, 0);
        if (failed == 0) {
            try (URLClassLoader loader = new URLClassLoader(new URL[] {url(FOLDER)})) {
                loader.loadClass("Example").getMethod("run", List.class).invoke(null, got);
            }
        }
        return got;
    }

    private static URL url(Path folder) {
        try {
            return folder.toUri().toURL();
        } catch (MalformedURLException e) {
            throw new UncheckedIOException(e);
        }
    }

    private static void everyCallIsShown(List<String> lines) {
        String all = String.join("\n", lines);
        for (String name : Calls.NAMES) {
            CHECK.yes("the example shows " + name, all.contains("x." + name + "("));
        }
    }

    private static void command(List<String> lines) {
        CHECK.sameText("the command", String.join("\n", lines), ".ci/run");
        CHECK.yes(".ci/run can be run", Files.isExecutable(Path.of(".ci/run")));
    }

    private static void namedTests(String text) throws IOException {
        TreeSet<String> named = new TreeSet<>();
        Matcher names = Pattern.compile("`(\\w+Test)`").matcher(text);
        while (names.find()) {
            named.add(names.group(1));
        }
        TreeSet<String> there = new TreeSet<>();
        try (Stream<Path> files = Files.list(TESTS)) {
            files.map(file -> file.getFileName().toString()).filter(name -> name.endsWith("Test.java"))
                    .forEach(name -> there.add(name.substring(0, name.length() - ".java".length())));
        }
        CHECK.sameText("the tests that are named", named.toString(), there.toString());
    }
}
