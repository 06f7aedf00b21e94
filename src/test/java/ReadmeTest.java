import java.io.IOException;
import java.net.URL;
import java.net.URLClassLoader;
import java.nio.file.Files;
import java.nio.file.Path;
import java.util.ArrayList;
import java.util.List;
import java.util.regex.Matcher;
import java.util.regex.Pattern;
import javax.tools.JavaCompiler;
import javax.tools.ToolProvider;

/** The example of README.md is compiled as it stands there and run, and each answer that it tells compared. */
public final class ReadmeTest {
    private static final Path README = Path.of("README.md");
    private static final Pattern TOLD = Pattern.compile("(?:int (\\w+) = )?(x\\..*); +// (-?\\d+|true|false)(:.*)?");

    private final List<String> calls = new ArrayList<>();
    private final List<String> due = new ArrayList<>();

    private ReadmeTest() {
    }

    public static void main(String[] args) throws IOException, ReflectiveOperationException {
        ReadmeTest test = new ReadmeTest();
        String program = test.program(example(Files.readString(README)));
        Path folder = Files.createTempDirectory("readme");
        try {
            test.compare(answers(folder, program));
        } finally {
            Files.deleteIfExists(folder.resolve("Example.java"));
            Files.deleteIfExists(folder.resolve("Example.class"));
            Files.deleteIfExists(folder);
        }
        Checks.end();
    }

    private static List<String> example(String readme) {
        int start = readme.indexOf("```java\n");
        int end = readme.indexOf("```\n", start + 8);
        Checks.due("README.md has an example", start >= 0 && end > start, true);
        return start >= 0 && end > start ? readme.substring(start + 8, end).lines().toList() : List.of();
    }

    /** The example's lines, each answer that is told put into a list. */
    private String program(List<String> lines) {
        StringBuilder text = new StringBuilder("public class Example {\npublic static java.util.List<Object> run() {\n"
                + "java.util.List<Object> answers = new java.util.ArrayList<>();\n");
        for (String line : lines) {
            Matcher told = TOLD.matcher(line);
            boolean tells = told.matches();
            Checks.due("an answer that cannot be read: " + line, !tells && line.contains("//"), false);
            if (!tells || told.group(1) != null) {
                text.append(line).append('\n');
            }
            if (tells) {
                String value = told.group(1) == null ? told.group(2) : told.group(1);
                text.append("answers.add(").append(value).append(");\n");
                calls.add(told.group(2));
                due.add(told.group(3));
            }
        }
        return text.append("return answers;\n}\n}\n").toString();
    }

    private static List<?> answers(Path folder, String program) throws IOException, ReflectiveOperationException {
        Path file = Files.writeString(folder.resolve("Example.java"), program);
        JavaCompiler javac = ToolProvider.getSystemJavaCompiler();
        int failed = javac == null ? -1 : javac.run(null, null, null, "-d", folder.toString(),
                "-cp", System.getProperty("java.class.path"), file.toString());
        Checks.due("the example is compiled", failed, 0);
        if (failed != 0) {
            return List.of();
        }
        try (URLClassLoader loader = new URLClassLoader(new URL[] {folder.toUri().toURL()})) {
            return (List<?>) loader.loadClass("Example").getMethod("run").invoke(null);
        }
    }

    private void compare(List<?> answers) {
        Checks.due("many answers are told", due.size() > 15, true);
        Checks.due("answers", answers.size(), due.size());
        for (int i = 0; i < answers.size() && i < due.size(); i++) {
            Checks.due(calls.get(i), answers.get(i).toString(), due.get(i));
        }
    }
}
