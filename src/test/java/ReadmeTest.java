import java.io.IOException;
import java.lang.reflect.InvocationTargetException;
import java.lang.reflect.Method;
import java.net.URL;
import java.net.URLClassLoader;
import java.nio.file.Files;
import java.nio.file.Path;
import java.util.ArrayList;
import java.util.List;
import java.util.regex.Matcher;
import java.util.regex.Pattern;
import java.util.stream.Stream;
import javax.tools.ToolProvider;

/**
 * What README.md shows is what the class answers: its Java lines are compiled and run as they stand there, and what
 * stands behind '// =' or '// throws' is compared with what came.
 */
public final class ReadmeTest {
    private static final Pattern BLOCK = Pattern.compile("```java\n(.*?)```", Pattern.DOTALL);
    private static final Pattern SHOWN =
        Pattern.compile("^(?:(\\w+ \\w+) = )?(.*);\\s+// (= |throws )(\\w+|-1)(;.*)?$");
    private static final String[] FACE = {"rule", "net", "pin", "access", "bar", "shield", "run", "piece", "chosen",
        "open", "joined", "broken", "history", "count"};

    private static final Checks CHECKS = new Checks();
    private static final List<String> LINES = new ArrayList<>();
    private static final List<Object> DUE = new ArrayList<>();

    public static void main(String[] args) throws Exception {
        String readme = Files.readString(Path.of("README.md"));
        StringBuilder code = new StringBuilder();
        Matcher block = BLOCK.matcher(readme);
        while (block.find()) {
            code.append("{\n");
            block.group(1).lines().forEach(line -> code.append(asCode(line)).append('\n'));
            code.append("}\n");
        }
        for (String name : FACE) {
            CHECKS.due("README.md shows an answer of " + name,
                LINES.stream().anyMatch(line -> line.contains("routes." + name + "(")), true);
        }
        List<?> answers = answers(code.toString());
        CHECKS.due("answers", answers.size(), DUE.size());
        for (int k = 0; k < answers.size(); k++) {
            CHECKS.due(LINES.get(k), answers.get(k), DUE.get(k));
        }
        CHECKS.end("ReadmeTest");
    }

    /** A line that shows no answer stands as it is; else its answer, or the name of what it throws, is kept. */
    private static String asCode(String line) {
        Matcher shown = SHOWN.matcher(line.strip());
        if (!shown.matches()) {
            CHECKS.due("a line that can be read: " + line, line.contains("// =") || line.contains("// throws"), false);
            return line;
        }
        LINES.add(line);
        boolean thrown = shown.group(3).startsWith("throws");
        DUE.add((thrown ? "throws " : "") + shown.group(4));
        String variable = shown.group(1);
        if (variable != null) {
            return variable + " = " + shown.group(2) + "; all.add(\"\" + " + variable.split(" ")[1] + ");";
        }
        return "try { all.add(\"\" + " + shown.group(2)
            + "); } catch (RuntimeException e) { all.add(\"throws \" + e.getClass().getSimpleName()); }";
    }

    private static List<?> answers(String code) throws Exception {
        Path place = Files.createTempDirectory("readme");
        try {
            Path file = place.resolve("ReadmeLines.java");
            Files.writeString(file, "public class ReadmeLines { public static java.util.List<String> answers() {\n"
                + "java.util.List<String> all = new java.util.ArrayList<>();\n" + code + "return all; } }\n");
            int compiled = ToolProvider.getSystemJavaCompiler().run(null, null, null, "-d", place.toString(), "-cp",
                System.getProperty("java.class.path"), file.toString());
            CHECKS.due("the lines of README.md compile", compiled, 0);
            if (compiled != 0) {
                return List.of();
            }
            try (URLClassLoader loader = new URLClassLoader(new URL[] {place.toUri().toURL()})) {
                Method answers = loader.loadClass("ReadmeLines").getMethod("answers");
                return (List<?>) answers.invoke(null);
            } catch (InvocationTargetException e) {
                CHECKS.due("the lines of README.md throw", e.getCause().toString(), "nothing that is not shown");
                return List.of();
            }
        } finally {
            remove(place);
        }
    }

    private static void remove(Path place) throws IOException {
        try (Stream<Path> files = Files.list(place)) {
            for (Path file : files.toList()) {
                Files.delete(file);
            }
        }
        Files.delete(place);
    }
}
