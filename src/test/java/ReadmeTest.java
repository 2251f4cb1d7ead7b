import java.io.IOException;
import java.lang.reflect.Method;
import java.net.URL;
import java.net.URLClassLoader;
import java.nio.file.Files;
import java.nio.file.Path;
import java.util.ArrayList;
import java.util.Comparator;
import java.util.List;
import java.util.regex.Matcher;
import java.util.regex.Pattern;
import java.util.stream.Stream;
import javax.tools.ToolProvider;

/** README.md: its examples are compiled and answer as it says, and it names every call. */
public final class ReadmeTest {
    private static final Pattern BLOCK = Pattern.compile("```java\n(.*?)```", Pattern.DOTALL);
    private static final Pattern EXAMPLE = Pattern.compile("((?:x\\.|tell\\().*\\));\\s*// (-?\\d+)\\b.*");

    private final String page;
    private final StringBuilder methods = new StringBuilder();
    private final StringBuilder lines = new StringBuilder();
    private final List<String> calls = new ArrayList<>();
    private final List<Long> wanted = new ArrayList<>();

    private ReadmeTest(String page) {
        this.page = page;
    }

    public static void main(String[] args) throws ReflectiveOperationException, IOException {
        ReadmeTest test = new ReadmeTest(Files.readString(Path.of("README.md")));
        test.namesAllCalls();
        test.gatherExamples();
        Path folder = Files.createTempDirectory("readme");
        try {
            test.runExamples(folder);
        } finally {
            remove(folder);
        }
        Checks.end();
    }

    private void namesAllCalls() {
        for (Method m : DrawerNames.class.getMethods()) {
            if (m.getDeclaringClass() == DrawerNames.class) {
                Checks.holds("README.md names " + m.getName(), page.contains("`" + m.getName() + "`"));
            }
        }
    }

    /** A block that tells a method stands as it is, the others one behind the other. */
    private void gatherExamples() {
        Matcher blocks = BLOCK.matcher(page);
        while (blocks.find()) {
            String block = blocks.group(1);
            if (block.startsWith("static ")) {
                methods.append(block);
            } else {
                block.lines().forEach(this::gatherLine);
            }
        }
        Checks.holds("README.md has examples", !calls.isEmpty());
    }

    private void gatherLine(String line) {
        Matcher example = EXAMPLE.matcher(line);
        if (example.matches()) {
            lines.append("answers[").append(calls.size()).append("] = ").append(example.group(1)).append(";\n");
            calls.add(example.group(1));
            wanted.add(Long.parseLong(example.group(2)));
        } else {
            Checks.holds("an example with its answer: " + line, line.startsWith("DrawerNames x = "));
            lines.append(line).append('\n');
        }
    }

    private void runExamples(Path folder) throws ReflectiveOperationException, IOException {
        Path source = folder.resolve("Examples.java");
        Files.writeString(source, "public class Examples {\n" + methods + "public static void run(long[] answers) {\n"
                + lines + "}\n}\n");
        String classes = System.getProperty("java.class.path");
        int refused = ToolProvider.getSystemJavaCompiler()
                .run(null, null, null, "-cp", classes, "-d", folder.toString(), source.toString());
        Checks.due("javac of the examples", refused, 0);
        if (refused != 0) {
            return;
        }
        long[] answers = new long[calls.size()];
        try (URLClassLoader loader = new URLClassLoader(new URL[] {folder.toUri().toURL()})) {
            loader.loadClass("Examples").getMethod("run", long[].class).invoke(null, answers);
        }
        for (int i = 0; i < answers.length; i++) {
            Checks.due("README.md: " + calls.get(i), answers[i], wanted.get(i));
        }
    }

    private static void remove(Path folder) throws IOException {
        List<Path> inside;
        try (Stream<Path> walk = Files.walk(folder)) {
            inside = walk.sorted(Comparator.reverseOrder()).toList();
        }
        for (Path path : inside) {
            Files.delete(path);
        }
    }
}
