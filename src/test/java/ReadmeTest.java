import java.io.IOException;
import java.lang.reflect.Method;
import java.lang.reflect.Modifier;
import java.net.URL;
import java.net.URLClassLoader;
import java.nio.file.Files;
import java.nio.file.Path;
import java.util.ArrayList;
import java.util.Comparator;
import java.util.List;
import java.util.function.Supplier;
import java.util.regex.Matcher;
import java.util.regex.Pattern;
import java.util.stream.Stream;
import javax.tools.ToolProvider;

/** The examples of README.md answer what stands behind them, and no call is left out there. */
public final class ReadmeTest {
    private static final Path README = Path.of("README.md");
    private static final Pattern ANSWERED =
            Pattern.compile("(?:int (\\w+) = )?([xy]\\.\\w+\\(.*\\)); *// (throws \\w+|\\w+).*");
    private static final String EXAMPLES = "ReadmeExamples";

    public static void main(String[] args) throws IOException, ReflectiveOperationException {
        String text = Files.readString(README);
        List<String> lines = exampleLines(text);
        Checks.due("README.md has examples", true, lines.size() > 20);
        run(lines);
        for (Method call : PointedWords.class.getDeclaredMethods()) {
            if (Modifier.isPublic(call.getModifiers())) {
                Checks.due("README.md tells of " + call.getName(), true,
                        text.contains("`" + call.getName() + "("));
            }
        }
        Checks.end();
    }

    /** A line of an example: what it answered, and what README.md says. */
    public static void line(String call, String want, Supplier<Object> made) {
        String got;
        try {
            got = String.valueOf(made.get());
        } catch (RuntimeException e) {
            got = "throws " + e.getClass().getSimpleName();
        }
        Checks.due(call, plain(want), got);
    }

    private static String plain(String want) {
        if (want.equals("NONE")) {
            return Integer.toString(PointedWords.NONE);
        }
        return want.startsWith("0x") ? Long.decode(want).toString() : want;
    }

    private static List<String> exampleLines(String text) {
        List<String> lines = new ArrayList<>();
        boolean inside = false;
        for (String line : text.split("\n")) {
            if (line.startsWith("```")) {
                inside = line.equals("```java");
            } else if (inside && !line.isBlank()) {
                lines.add(line);
            }
        }
        return lines;
    }

    private static String asChecks(List<String> lines) {
        StringBuilder program = new StringBuilder();
        program.append("public final class ").append(EXAMPLES).append(" {\n");
        program.append("public static void examples() {\n");
        for (String line : lines) {
            Matcher answered = ANSWERED.matcher(line);
            boolean isAnswered = answered.matches();
            boolean isMade = line.contains(" = new PointedWords();");
            Checks.due("an answer stands behind: " + line, true, isAnswered || isMade);
            if (!isAnswered) {
                program.append(line).append('\n');
                continue;
            }
            String value = answered.group(2);
            if (answered.group(1) != null) {
                program.append("int " + answered.group(1) + " = " + value + ";\n");
                value = answered.group(1);
            }
            program.append("ReadmeTest.line(\"" + answered.group(2) + "\", \"" + answered.group(3)
                    + "\", () -> " + value + ");\n");
        }
        return program.append("}\n}\n").toString();
    }

    private static void run(List<String> lines) throws IOException, ReflectiveOperationException {
        Path made = Files.createTempDirectory("readme");
        try {
            Path source = made.resolve(EXAMPLES + ".java");
            Files.writeString(source, asChecks(lines));
            int failed = ToolProvider.getSystemJavaCompiler().run(null, null, null,
                    "-proc:none", "-cp", System.getProperty("java.class.path"),
                    "-d", made.toString(), source.toString());
            Checks.due("the examples compile", 0, () -> failed);
            if (failed == 0) {
                try (URLClassLoader loader =
                        new URLClassLoader(new URL[] {made.toUri().toURL()})) {
                    loader.loadClass(EXAMPLES).getMethod("examples").invoke(null);
                }
            }
        } finally {
            delete(made);
        }
    }

    private static void delete(Path directory) throws IOException {
        try (Stream<Path> files = Files.walk(directory)) {
            for (Path file : files.sorted(Comparator.reverseOrder()).toList()) {
                Files.delete(file);
            }
        }
    }
}
