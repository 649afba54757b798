import java.io.IOException;
import java.lang.reflect.InvocationTargetException;
import java.lang.reflect.Method;
import java.lang.reflect.Modifier;
import java.net.URL;
import java.net.URLClassLoader;
import java.nio.file.Files;
import java.nio.file.Path;
import java.util.ArrayList;
import java.util.List;
import java.util.regex.Matcher;
import java.util.regex.Pattern;
import java.util.stream.Collectors;
import java.util.stream.Stream;
import javax.tools.JavaCompiler;
import javax.tools.ToolProvider;

/** What README.md shows as a use of the class is compiled and run as it stands there, and answers as it says. */
public final class ReadmeTest {
    private static final Path README = Path.of("README.md");
    private static final Path TESTS = Path.of("src/test/java");

    private static final Pattern BLOCK = Pattern.compile("(?ms)^```java\\n(.*?)^```$");
    private static final Pattern MADE = Pattern.compile("JoinedLists lists = new JoinedLists\\(\\);");
    private static final Pattern CALL = Pattern.compile(
            "(lists\\.(\\w+)\\([^;]*\\)); +// (throws ArithmeticException|-?\\d+|BAD|FULL|STATE|UNEVEN|NONE)(: .*)?");

    private static int wrong = 0;
    private static int looked = 0;

    private static void fault(String what) {
        wrong++;
        System.out.println(what);
    }

    /** The class that is made of README.md calls this for each of its lines. */
    public static void due(String call, String got, String want) {
        looked++;
        if (!got.equals(want)) {
            fault("README.md: " + call + " answered " + got + ", README.md says " + want);
        }
    }

    private static List<String> shownLines(String readme) {
        List<String> lines = new ArrayList<>();
        Matcher block = BLOCK.matcher(readme);
        while (block.find()) {
            lines.addAll(block.group(1).lines().collect(Collectors.toList()));
        }
        return lines;
    }

    private static String checked(String line) {
        Matcher call = CALL.matcher(line);
        if (!call.matches()) {
            if (!MADE.matcher(line).matches()) {
                fault("README.md: no answer can be read from: " + line);
            }
            return line;
        }
        String said = call.group(3);
        String want = Character.isUpperCase(said.charAt(0)) ? "String.valueOf(JoinedLists." + said + ")" : "\"" + said + "\"";
        return "try { got = String.valueOf(" + call.group(1) + "); }"
                + " catch (ArithmeticException e) { got = \"throws ArithmeticException\"; }"
                + " ReadmeTest.due(\"" + call.group(1) + "\", got, " + want + ");";
    }

    private static String sourceOf(List<String> lines) {
        return lines.stream().map(ReadmeTest::checked)
                .collect(Collectors.joining("\n", "public final class Shown { public static void run() { String got;\n", "\n} }\n"));
    }

    private static void runShown(String source) throws IOException, ReflectiveOperationException {
        JavaCompiler compiler = ToolProvider.getSystemJavaCompiler();
        if (compiler == null) {
            fault("there is no javac beside this java");
            return;
        }
        Path dir = Files.createTempDirectory("readme");
        Path file = dir.resolve("Shown.java");
        try {
            Files.writeString(file, source);
            int failed = compiler.run(null, null, System.out, "--release", "17",
                    "-cp", System.getProperty("java.class.path"), "-d", dir.toString(), file.toString());
            if (failed != 0) {
                fault("what README.md shows does not compile");
                return;
            }
            try (URLClassLoader loader = new URLClassLoader(new URL[] {dir.toUri().toURL()}, ReadmeTest.class.getClassLoader())) {
                loader.loadClass("Shown").getMethod("run").invoke(null);
            } catch (InvocationTargetException e) {
                fault("what README.md shows threw " + e.getCause());
            }
        } finally {
            Files.deleteIfExists(dir.resolve("Shown.class"));
            Files.deleteIfExists(file);
            Files.deleteIfExists(dir);
        }
    }

    /** A reader should find every call of the face explained. */
    private static void nameAllCalls(String readme) {
        for (Method method : JoinedLists.class.getDeclaredMethods()) {
            if (Modifier.isPublic(method.getModifiers()) && !readme.contains("`" + method.getName() + "(")) {
                fault("README.md does not tell of " + method.getName());
            }
        }
    }

    private static void nameAllTests(String readme) throws IOException {
        try (Stream<Path> files = Files.list(TESTS)) {
            for (Path file : files.collect(Collectors.toList())) {
                String name = file.getFileName().toString().replace(".java", "");
                if (!readme.contains("- `" + name + "`:")) {
                    fault("README.md does not tell of " + name);
                }
            }
        }
        if (!readme.contains("`.ci/run`")) {
            fault("README.md does not tell how the tests are run");
        }
    }

    public static void main(String[] args) throws IOException, ReflectiveOperationException {
        String readme = Files.readString(README);
        runShown(sourceOf(shownLines(readme)));
        if (looked == 0) {
            fault("README.md shows no use");
        }
        nameAllCalls(readme);
        nameAllTests(readme);
        System.out.println(wrong == 0 ? "README.md answers as it says, in " + looked + " calls" : wrong + " faults");
        if (wrong != 0) {
            System.exit(1);
        }
    }
}
