import java.io.IOException;
import java.net.URL;
import java.net.URLClassLoader;
import java.nio.file.Files;
import java.nio.file.Path;
import java.util.ArrayList;
import java.util.List;
import java.util.Set;
import java.util.TreeSet;
import java.util.regex.Matcher;
import java.util.regex.Pattern;
import java.util.stream.Stream;
import javax.tools.ToolProvider;

/** README.md: its example, compiled and run with the answers that it tells, and its tables of calls and of tests. */
public final class ReadmeTest {
    private static final Path README = Path.of("README.md"), DOCUMENT = Path.of("../shared/DOC.md"), TESTS = Path.of("src/test/java");
    private static final String NEW_OBJECT = "TriedHarder tried = new TriedHarder();";
    private static final Pattern ANSWERED = Pattern.compile("(tried\\.(\\w+)\\(.*\\));\\s+// (-?\\d+|NONE|UNKNOWN|OUTSIDE|NOT|FULL)(: .*)?");

    public static void main(String[] args) throws IOException, ReflectiveOperationException {
        String text = Files.readString(README);
        Set<String> face = face();
        Run.hold("calls of the document's face", face.size(), 22);
        example(exampleOf(text), face);
        tableOfCalls(text, face);
        tableOfTests(text);
        Run.holdTrue("it says how the tests are run", text.contains("    .ci/run\n"));
        Run.finish();
    }

    /** The calls of the document's face without their types, as in unit(stress, hour, cause). */
    private static Set<String> face() throws IOException {
        Set<String> calls = new TreeSet<>();
        Matcher call = Pattern.compile("public (?:int|long) (\\w+\\(.*\\));").matcher(Files.readString(DOCUMENT));
        while (call.find()) {
            calls.add(call.group(1).replace("int ", ""));
        }
        return calls;
    }

    private static List<String> exampleOf(String text) {
        Matcher block = Pattern.compile("(?s)```java\n(.*?)```").matcher(text);
        Run.holdTrue("there is an example", block.find());
        List<String> lines = block.group(1).lines().toList();
        Run.holdTrue("there is but one", !block.find());
        return lines;
    }

    private static void example(List<String> lines, Set<String> face) throws IOException, ReflectiveOperationException {
        List<String> calls = new ArrayList<>();
        List<String> told = new ArrayList<>();
        Set<String> used = new TreeSet<>();
        for (String line : lines) {
            Matcher answered = ANSWERED.matcher(line);
            if (answered.matches()) {
                calls.add(answered.group(1));
                told.add(answered.group(3));
                used.add(answered.group(2));
            } else {
                Run.holdTrue("a line of the example tells no answer: " + line, line.isEmpty() || line.startsWith("// ") || line.equals(NEW_OBJECT));
            }
        }
        Run.holdTrue("the example begins with an object and has no other", lines.indexOf(NEW_OBJECT) == 0 && lines.lastIndexOf(NEW_OBJECT) == 0);
        Run.holdTrue("the example has no more calls than are promised answers", calls.size() <= Run.MOST_CALLS);
        for (String call : face) {
            String name = call.substring(0, call.indexOf('('));
            Run.holdTrue("the example uses " + name, used.contains(name));
        }
        long[] answers = compiledAndRun(calls);
        for (int i = 0; i < answers.length; i++) {
            Run.hold("the example: " + calls.get(i), answers[i], number(told.get(i)));
        }
    }

    private static long number(String told) throws ReflectiveOperationException {
        return Character.isLetter(told.charAt(0)) ? TriedHarder.class.getField(told).getInt(null) : Long.parseLong(told);
    }

    /** The calls go to the compiler as README.md has them, so that what a reader copies is Java. */
    private static long[] compiledAndRun(List<String> calls) throws IOException, ReflectiveOperationException {
        Path place = Files.createTempDirectory("readme");
        Path source = place.resolve("Example.java");
        Path made = place.resolve("Example.class");
        try {
            Files.writeString(source, "public final class Example {\n public static long[] answers() {\n" + NEW_OBJECT
                    + "\nreturn new long[] {\n" + String.join(",\n", calls) + "};\n }\n}\n");
            int code = ToolProvider.getSystemJavaCompiler().run(null, null, null,
                    "-cp", System.getProperty("java.class.path"), "-d", place.toString(), source.toString());
            Run.hold("the example compiles", code, 0);
            if (code != 0) {
                return new long[0];
            }
            try (URLClassLoader loader = new URLClassLoader(new URL[] {place.toUri().toURL()})) {
                return (long[]) loader.loadClass("Example").getMethod("answers").invoke(null);
            }
        } finally {
            Files.deleteIfExists(source);
            Files.deleteIfExists(made);
            Files.deleteIfExists(place);
        }
    }

    private static void tableOfCalls(String text, Set<String> face) {
        Run.holdTrue("the table of calls is the document's face: " + firstCells(text, "## The calls"), firstCells(text, "## The calls").equals(face));
    }

    private static void tableOfTests(String text) throws IOException {
        Set<String> files = new TreeSet<>();
        try (Stream<Path> paths = Files.list(TESTS)) {
            paths.map(path -> path.getFileName().toString()).filter(name -> name.endsWith("Test.java"))
                    .forEach(name -> files.add(name.replace(".java", "")));
        }
        Run.holdTrue("the table of tests has " + files, firstCells(text, "## Tests").equals(files));
    }

    private static Set<String> firstCells(String text, String title) {
        int begin = text.indexOf(title + "\n");
        Run.holdTrue("there is a part " + title, begin >= 0);
        int end = text.indexOf("\n## ", begin + 1);
        String part = text.substring(Math.max(0, begin), end > 0 ? end : text.length());
        Set<String> cells = new TreeSet<>();
        Matcher row = Pattern.compile("(?m)^\\| `([^`]*)` \\|").matcher(part);
        while (row.find()) {
            cells.add(row.group(1));
        }
        return cells;
    }
}
