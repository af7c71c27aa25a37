import java.io.ByteArrayOutputStream;
import java.io.File;
import java.io.IOException;
import java.io.PrintStream;
import java.net.URL;
import java.net.URLClassLoader;
import java.nio.file.Files;
import java.nio.file.Path;
import java.util.regex.Matcher;
import java.util.regex.Pattern;
import javax.tools.ToolProvider;

/** README.md: its example compiles and prints what it says, and each test has a row. */
public final class ReadmeTest {
    private static final Pattern EXAMPLE = Pattern.compile("(?s)\n```java\n(.*?)\n```\n");
    private static final Pattern PRINTED = Pattern.compile("println\\(.*\\); *// (.*)");

    public static void main(String[] args) throws IOException, ReflectiveOperationException {
        Path root = Path.of(args.length > 0 ? args[0] : ".");
        String page = Files.readString(root.resolve("README.md"));
        Matcher example = EXAMPLE.matcher(page);
        Check.isTrue("there is an example", example.find());
        String code = example.group(1);
        String due = answersIn(code);
        Check.isTrue("each line that prints says what", due.lines().count() == count(code, "println"));
        Check.isTrue("the example prints something", due.length() > 0);
        Check.same("the example", printedBy(code), due);
        Check.same("the example with the model", printedBy(code.replace("OfflineGates", "Model")), due);
        rows(root, page);
        Check.end();
    }

    private static String answersIn(String code) {
        StringBuilder due = new StringBuilder();
        Matcher printed = PRINTED.matcher(code);
        while (printed.find()) {
            due.append(printed.group(1).trim()).append('\n');
        }
        return due.toString();
    }

    private static int count(String code, String what) {
        return code.split(Pattern.quote(what), -1).length - 1;
    }

    /** Compiles the example into a directory of its own, and runs it beside the classes of the tests. */
    private static String printedBy(String code) throws IOException, ReflectiveOperationException {
        Path out = Files.createTempDirectory("readme");
        Path source = out.resolve("Example.java");
        Path compiled = out.resolve("Example.class");
        try {
            Files.writeString(source, code);
            int failed = ToolProvider.getSystemJavaCompiler().run(null, null, null,
                "-cp", System.getProperty("java.class.path"), "-d", out.toString(), source.toString());
            return failed == 0 ? run(out) : "does not compile";
        } finally {
            for (Path file : new Path[] {source, compiled, out}) {
                Files.deleteIfExists(file);
            }
        }
    }

    private static String run(Path out) throws IOException, ReflectiveOperationException {
        PrintStream before = System.out;
        ByteArrayOutputStream printed = new ByteArrayOutputStream();
        try (URLClassLoader loader = new URLClassLoader(new URL[] {out.toUri().toURL()})) {
            System.setOut(new PrintStream(printed, true));
            loader.loadClass("Example").getMethod("main", String[].class).invoke(null, (Object) new String[0]);
        } finally {
            System.setOut(before);
        }
        return printed.toString().replace(System.lineSeparator(), "\n");
    }

    private static void rows(Path root, String page) {
        File[] files = root.resolve("src/test/java").toFile().listFiles();
        Check.isTrue("there are tests", files != null && files.length > 0);
        for (File file : files == null ? new File[0] : files) {
            String name = file.getName().replace(".java", "");
            if (name.endsWith("Test")) {
                Check.isTrue("README.md has a row for " + name, page.contains("\n| " + name + " | "));
            }
        }
    }
}
