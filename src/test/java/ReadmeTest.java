import java.io.IOException;
import java.lang.reflect.Method;
import java.lang.reflect.Modifier;
import java.net.URL;
import java.net.URLClassLoader;
import java.nio.file.DirectoryStream;
import java.nio.file.Files;
import java.nio.file.Path;
import java.util.List;
import java.util.regex.Matcher;
import java.util.regex.Pattern;
import javax.tools.ToolProvider;

/** What README.md says: its example is compiled and run, and it names every call and every test. */
public final class ReadmeTest {
    private static final Pattern EXAMPLE = Pattern.compile("(?s)```java\n(.*?)```");
    /** A name for the answer or none, the call, and the answer ahead of a colon. */
    private static final Pattern LINE = Pattern.compile("(?:int (\\w+) = )?(mill\\.\\w+\\(.*?\\)); *// (-?\\d+): .+");

    private static final Checks CHECKS = new Checks();

    public static void main(String[] args) throws Exception {
        String readme = Files.readString(Path.of("README.md"));
        Matcher example = EXAMPLE.matcher(readme);
        CHECKS.holds("README.md has an example", example.find());
        runExample(example.group(1).split("\n"));
        checkCalls(readme);
        checkTests(readme);
        CHECKS.end();
    }

    /** Called by the example. */
    public static void due(String call, long got, long want) {
        CHECKS.due(call, got, want);
    }

    private static void runExample(String[] lines) throws Exception {
        StringBuilder code = new StringBuilder("public final class Example {\npublic static void run() {\n");
        for (String line : lines) code.append(checked(line)).append('\n');
        code.append("}\n}\n");
        Path folder = Files.createTempDirectory("readme");
        try {
            Path file = Files.writeString(folder.resolve("Example.java"), code);
            int failed = ToolProvider.getSystemJavaCompiler().run(null, null, null, "-cp",
                    System.getProperty("java.class.path"), "-d", folder.toString(), file.toString());
            CHECKS.due("compiling the example", failed, 0);
            if (failed == 0) runMain(folder);
        } finally {
            for (String name : List.of("Example.java", "Example.class")) Files.deleteIfExists(folder.resolve(name));
            Files.delete(folder);
        }
    }

    private static void runMain(Path folder) throws Exception {
        try (URLClassLoader loader = new URLClassLoader(new URL[] {folder.toUri().toURL()}, ReadmeTest.class.getClassLoader())) {
            loader.loadClass("Example").getMethod("run").invoke(null);
        }
    }

    /** The line with a check of its answer; each call is made once. */
    private static String checked(String line) {
        if (line.isBlank() || line.equals("WireMill mill = new WireMill();")) return line;
        Matcher parts = LINE.matcher(line);
        boolean isCall = parts.matches();
        CHECKS.holds("an answer behind the call: " + line, isCall);
        if (!isCall) return line;
        String name = parts.group(1);
        String first = name == null ? "" : "int " + name + " = " + parts.group(2) + "; ";
        String got = name == null ? parts.group(2) : name;
        return first + "ReadmeTest.due(\"" + parts.group(2) + "\", " + got + ", " + parts.group(3) + ");";
    }

    private static void checkCalls(String readme) {
        for (Method m : WireMill.class.getDeclaredMethods()) {
            if (Modifier.isPublic(m.getModifiers())) CHECKS.holds("names " + m, readme.contains("`" + m.getName() + "`"));
        }
    }

    private static void checkTests(String readme) throws IOException {
        try (DirectoryStream<Path> files = Files.newDirectoryStream(Path.of("src/test/java"), "*.java")) {
            for (Path file : files) {
                String name = file.getFileName().toString().replace(".java", "");
                CHECKS.holds("names " + name, readme.contains("`" + name + "`"));
            }
        }
    }
}
