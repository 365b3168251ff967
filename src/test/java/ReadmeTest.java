import java.net.URL;
import java.net.URLClassLoader;
import java.nio.file.Files;
import java.nio.file.Path;
import java.util.List;
import java.util.regex.Matcher;
import java.util.regex.Pattern;
import javax.tools.ToolProvider;

/**
 * The examples of README.md are so: they are compiled as they stand there, and each call with an answer behind it
 * (x.take(0, 3); // 6: ..) must answer that. README.md is the second argument.
 */
public final class ReadmeTest {
    private static final Pattern ANSWERED = Pattern.compile("\\s*(x\\.\\w+\\([^;]*\\)); *// (-?[0-9]+|BAD|NO|FULL|NONE)\\b.*");
    private static final Pattern CALL = Pattern.compile("\\bx\\.(\\w+)\\(");

    private static final Check CHECK = new Check();

    public static void main(String[] args) throws Exception {
        List<String> lines = Files.readAllLines(Path.of(args[1]));
        CHECK.isTrue("README.md tells how its tests are run", lines.stream().anyMatch(line -> line.contains(".ci/run")));
        for (var method : SnowSuits.class.getDeclaredMethods()) {
            CHECK.isTrue("README.md shows " + method.getName(),
                lines.stream().flatMap(line -> CALL.matcher(line).results()).anyMatch(m -> m.group(1).equals(method.getName())));
        }
        runExample(example(lines), Files.createDirectories(Path.of(args[1]).resolveSibling("build").resolve("readme")));
        CHECK.end("ReadmeTest");
    }

    /** Called by the compiled example. */
    public static void due(String call, int got, int want) {
        CHECK.due("README.md: " + call, got, want);
    }

    private static String example(List<String> lines) {
        StringBuilder source = new StringBuilder("public final class Example {\n    public static void main(String[] args) {\n");
        boolean inside = false;
        for (String line : lines) {
            if (line.startsWith("```")) {
                inside = line.equals("```java");
            } else if (inside) {
                source.append(asCheck(line)).append("\n");
            }
        }
        return source.append("    }\n}\n").toString();
    }

    private static String asCheck(String line) {
        Matcher answered = ANSWERED.matcher(line);
        if (!answered.matches()) {
            CHECK.isTrue("README.md: an answer stands behind " + line, !line.startsWith("x."));
            return line;
        }
        String call = answered.group(1);
        String want = answered.group(2);
        String value = Character.isLetter(want.charAt(0)) ? "SnowSuits." + want : want;
        return "ReadmeTest.due(\"" + call.replace("\"", "\\\"") + "\", " + call + ", " + value + ");";
    }

    private static void runExample(String source, Path place) throws Exception {
        Path file = place.resolve("Example.java");
        Files.writeString(file, source);
        int wrong = ToolProvider.getSystemJavaCompiler().run(null, null, null, "-d", place.toString(),
            "-cp", System.getProperty("java.class.path"), file.toString());
        CHECK.due("README.md: compiling the example", wrong, 0);
        if (wrong == 0) {
            try (URLClassLoader loader = new URLClassLoader(new URL[] {place.toUri().toURL()})) {
                loader.loadClass("Example").getMethod("main", String[].class).invoke(null, (Object) new String[0]);
            }
        }
    }
}
