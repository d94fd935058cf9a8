import java.io.IOException;
import java.lang.reflect.Method;
import java.lang.reflect.Modifier;
import java.net.URL;
import java.net.URLClassLoader;
import java.nio.file.Files;
import java.nio.file.Path;
import java.util.ArrayList;
import java.util.List;
import java.util.regex.Matcher;
import java.util.regex.Pattern;
import java.util.stream.Stream;
import javax.tools.JavaCompiler;
import javax.tools.ToolProvider;

/** What README.md shows as an example answers as it says; it names every call and every test. */
public final class ReadmeTest {
    private static final Pattern BLOCK = Pattern.compile("```java\\n(.*?)```", Pattern.DOTALL);
    private static final Pattern TOLD = Pattern.compile("^(?:int (\\w+) = )?(.*?);\\s*// -> (-?\\w+).*$");
    private static final int FEWEST_TOLD = 40;

    private static final Checks CHECKS = new Checks();

    public static void main(String[] args) throws IOException, ReflectiveOperationException {
        String readme = Files.readString(Path.of("README.md"));
        CHECKS.part("README.md");
        int told = 0;
        Matcher block = BLOCK.matcher(readme);
        while (block.find()) {
            told += runExample(block.group(1));
        }
        CHECKS.yes(told + " answers are told, enough", told >= FEWEST_TOLD);
        namesEachCall(readme);
        namesEachTest(readme);
        CHECKS.end();
    }

    /** How many answers the example tells, each of which is held against the class's. */
    private static int runExample(String code) throws IOException, ReflectiveOperationException {
        List<String> lines = new ArrayList<>();
        List<String> due = new ArrayList<>();
        StringBuilder body = new StringBuilder();
        for (String line : code.split("\n")) {
            Matcher told = TOLD.matcher(line);
            if (!told.matches()) {
                body.append(line).append('\n');
                continue;
            }
            lines.add(line);
            due.add(told.group(3));
            if (told.group(1) == null) {
                body.append("answers.add(").append(told.group(2)).append(");\n");
            } else {
                body.append(line).append("\nanswers.add(").append(told.group(1)).append(");\n");
            }
        }
        List<?> answers = answersOf(body.toString());
        CHECKS.due("answers of an example", due.size(), answers.size());
        for (int i = 0; i < answers.size() && i < due.size(); i++) {
            CHECKS.yes(lines.get(i) + " [answered " + answers.get(i) + "]",
                    due.get(i).equals(String.valueOf(answers.get(i))));
        }
        return due.size();
    }

    private static List<?> answersOf(String body) throws IOException, ReflectiveOperationException {
        JavaCompiler compiler = ToolProvider.getSystemJavaCompiler();
        Path where = Files.createTempDirectory("readme");
        Path source = where.resolve("Example.java");
        Files.writeString(source, "public class Example { public static java.util.List<Object> answers() {\n"
                + "java.util.List<Object> answers = new java.util.ArrayList<>();\n" + body + "return answers; } }\n");
        try (URLClassLoader loader = new URLClassLoader(new URL[] {where.toUri().toURL()})) {
            int failed = compiler.run(null, null, null, "-cp", System.getProperty("java.class.path"),
                    "-d", where.toString(), source.toString());
            CHECKS.due("compiling an example", 0, failed);
            if (failed != 0) {
                return List.of();
            }
            return (List<?>) loader.loadClass("Example").getMethod("answers").invoke(null);
        } finally {
            Files.deleteIfExists(where.resolve("Example.class"));
            Files.delete(source);
            Files.delete(where);
        }
    }

    private static void namesEachCall(String readme) {
        for (Method method : PocketList.class.getDeclaredMethods()) {
            if (Modifier.isPublic(method.getModifiers())) {
                CHECKS.yes("it tells of " + method.getName(), readme.contains("| `" + method.getName() + "("));
            }
        }
    }

    private static void namesEachTest(String readme) throws IOException {
        try (Stream<Path> files = Files.list(Path.of("src", "test", "java"))) {
            for (Path file : files.toList()) {
                String name = file.getFileName().toString().replace(".java", "");
                CHECKS.yes("it tells of " + name, !name.endsWith("Test") || readme.contains("`" + name + "`"));
            }
        }
    }
}
