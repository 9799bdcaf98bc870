import java.io.IOException;
import java.lang.reflect.Field;
import java.lang.reflect.Method;
import java.lang.reflect.Modifier;
import java.net.URL;
import java.net.URLClassLoader;
import java.nio.file.Files;
import java.nio.file.Path;
import java.util.List;
import java.util.regex.Matcher;
import java.util.regex.Pattern;
import java.util.stream.Stream;
import javax.tools.ToolProvider;

/** Runs README.md's example, with the answers told behind its calls; and looks that README.md leaves nothing out. */
public final class ReadmeTest {
    private static final Pattern EXAMPLE = Pattern.compile("(?s)```java\n(.*?)```");
    /** A call on a line of its own, and the answer that is told behind it. */
    private static final Pattern ANSWERED = Pattern.compile("(?m)^(x\\.\\w+\\(.*\\));\\s+// (-?\\d+):.*$");
    private static final Path WHERE = Path.of("build/readme");
    private static int wrong = 0;

    private ReadmeTest() {}

    public static void main(String[] args) throws IOException, ReflectiveOperationException {
        String readme = Files.readString(Path.of("README.md"));
        int answers = example(readme);
        names(readme);
        System.out.println("README.md: " + answers + " answers, " + wrong + " wrong");
        if (wrong != 0) System.exit(1);
    }

    private static void complain(String what) {
        wrong++;
        System.out.println(what);
    }

    /** How many answers the example tells. */
    private static int example(String readme) throws IOException, ReflectiveOperationException {
        Matcher block = EXAMPLE.matcher(readme);
        if (!block.find()) {
            complain("README.md has no example");
            return 0;
        }
        String code = block.group(1);
        int answers = (int) ANSWERED.matcher(code).results().count();
        if (answers == 0) complain("README.md's example tells no answer");
        String asked = ANSWERED.matcher(code).replaceAll("ReadmeTest.due(\"$1\", $1, $2);");
        run("public final class Readme { public static void run() {\n" + asked + "} }");
        return answers;
    }

    private static void run(String source) throws IOException, ReflectiveOperationException {
        Files.createDirectories(WHERE);
        Path file = WHERE.resolve("Readme.java");
        Files.writeString(file, source);
        String path = System.getProperty("java.class.path");
        int failed = ToolProvider.getSystemJavaCompiler()
                .run(null, null, null, "-proc:none", "-cp", path, "-d", WHERE.toString(), file.toString());
        if (failed != 0) {
            complain("README.md's example does not compile");
            return;
        }
        try (URLClassLoader loader = new URLClassLoader(new URL[] {WHERE.toUri().toURL()})) {
            loader.loadClass("Readme").getMethod("run").invoke(null);
        }
    }

    /** The example calls it. */
    public static void due(String call, long got, long want) {
        if (got != want) complain("README.md: " + call + " answered " + got + ", told is " + want);
    }

    private static void names(String readme) throws IOException, IllegalAccessException {
        for (Method m : CockWar.class.getDeclaredMethods()) {
            if (Modifier.isPublic(m.getModifiers())) named(readme, "`" + m.getName() + "`");
        }
        for (Field f : CockWar.class.getFields()) named(readme, "`" + f.getName() + "` (" + f.getInt(null) + ")");
        try (Stream<Path> files = Files.list(Path.of("src/test/java"))) {
            List<String> tests = files.map(file -> file.getFileName().toString())
                    .filter(name -> name.endsWith("Test.java")).toList();
            for (String test : tests) named(readme, "`" + test.replace(".java", "") + "`");
        }
        named(readme, ".ci/run");
    }

    private static void named(String readme, String what) {
        if (!readme.contains(what)) complain("README.md does not name " + what);
    }
}
