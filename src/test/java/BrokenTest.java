import java.io.ByteArrayOutputStream;
import java.io.IOException;
import java.io.OutputStream;
import java.lang.reflect.InvocationTargetException;
import java.lang.reflect.Method;
import java.net.URI;
import java.net.URL;
import java.net.URLClassLoader;
import java.nio.file.Files;
import java.nio.file.Path;
import java.util.ArrayList;
import java.util.HashMap;
import java.util.List;
import java.util.Map;
import java.util.regex.Matcher;
import java.util.regex.Pattern;
import java.util.stream.IntStream;
import javax.tools.FileObject;
import javax.tools.ForwardingJavaFileManager;
import javax.tools.JavaCompiler;
import javax.tools.JavaFileManager;
import javax.tools.JavaFileObject;
import javax.tools.SimpleJavaFileObject;
import javax.tools.StandardJavaFileManager;
import javax.tools.ToolProvider;

/**
 * Breaks CockWar.java as each case of Edges tells, one break at a time, and looks that the case fails then.
 * Whoever changes the class writes the breaks anew that stand in it no more: they are in the *Edges.java.
 * A class written wholly anew may still be right, though no break was told for it: then nothing is looked at.
 */
public final class BrokenTest {
    private static final Path SOURCE = Path.of("src/main/java/CockWar.java");
    private static final JavaCompiler COMPILER = ToolProvider.getSystemJavaCompiler();

    private BrokenTest() {}

    public static void main(String[] args) throws IOException {
        String source = Files.readString(SOURCE);
        List<Edge> all = Edges.ofAll().all;
        List<Edge.Break> breaks = all.stream().flatMap(edge -> edge.breaks.stream()).toList();
        long strange = breaks.stream().filter(one -> broken(one, source) == null).count();
        if (2 * strange > breaks.size()) {
            System.out.println(strange + " of " + breaks.size() + " breaks are told for another class: nothing is looked at");
            return;
        }
        List<String> wrong = IntStream.range(0, all.size()).parallel()
                .mapToObj(number -> wrongOf(all.get(number), number, source))
                .collect(ArrayList::new, List::addAll, List::addAll);
        for (String what : wrong) System.out.println(what);
        System.out.println(breaks.size() + " breaks at edges, " + wrong.size() + " wrong");
        if (!wrong.isEmpty()) System.exit(1);
    }

    private static List<String> wrongOf(Edge edge, int number, String source) {
        List<String> wrong = new ArrayList<>();
        if (edge.breaks.isEmpty()) wrong.add(edge.key() + ": nothing tells how it would be broken");
        for (Edge.Break one : edge.breaks) {
            String what = edge.key() + ", with " + one.broken() + " in " + one.method() + ": ";
            String broken = broken(one, source);
            if (broken == null) {
                wrong.add(what + one.old() + " does not stand there once");
                continue;
            }
            Map<String, byte[]> classes = compiled(broken);
            if (classes == null) wrong.add(what + "does not compile");
            else if (holds(classes, number)) wrong.add(what + "the case still holds");
        }
        return wrong;
    }

    /** Null if what is to be broken isn't there, or more than once. */
    private static String broken(Edge.Break one, String source) {
        int from = 0, to = source.length();
        if (!one.method().isEmpty()) {
            int dot = one.method().indexOf('.');
            int inside = dot < 0 ? 0 : source.indexOf("class " + one.method().substring(0, dot) + " {");
            String name = one.method().substring(dot + 1);
            Matcher head = Pattern.compile("(?m)^( +)(public|private) [^=;\n]*\\b" + name + "\\([^;\n]*\\) \\{$")
                    .matcher(source);
            if (inside < 0 || !head.find(inside)) return null;
            from = head.start();
            to = source.indexOf("\n" + head.group(1) + "}\n", from);
        }
        int at = source.indexOf(one.old(), from);
        if (at < 0 || at > to || source.indexOf(one.old(), at + 1) >= 0 && source.indexOf(one.old(), at + 1) < to) {
            return null;
        }
        return source.substring(0, at) + one.broken() + source.substring(at + one.old().length());
    }

    /** The classes by name, or null if it does not compile. */
    private static Map<String, byte[]> compiled(String source) {
        Map<String, ByteArrayOutputStream> made = new HashMap<>();
        List<String> options = List.of("-proc:none", "-implicit:none", "-nowarn");
        try (JavaFileManager files = new InMemory(COMPILER.getStandardFileManager(null, null, null), made)) {
            if (!COMPILER.getTask(null, files, d -> {}, options, null, List.of(new Source(source))).call()) return null;
        } catch (IOException thrown) {
            return null;
        }
        Map<String, byte[]> classes = new HashMap<>();
        made.forEach((name, bytes) -> classes.put(name, bytes.toByteArray()));
        return classes;
    }

    private static final class Source extends SimpleJavaFileObject {
        private final String text;

        Source(String text) {
            super(URI.create("mem:///CockWar.java"), Kind.SOURCE);
            this.text = text;
        }

        @Override
        public CharSequence getCharContent(boolean lenient) {
            return text;
        }
    }

    /** Lets the compiler write its classes here. */
    private static final class InMemory extends ForwardingJavaFileManager<StandardJavaFileManager> {
        private final Map<String, ByteArrayOutputStream> made;

        InMemory(StandardJavaFileManager standard, Map<String, ByteArrayOutputStream> made) {
            super(standard);
            this.made = made;
        }

        @Override
        public JavaFileObject getJavaFileForOutput(Location to, String name, JavaFileObject.Kind kind, FileObject from) {
            made.put(name, new ByteArrayOutputStream());
            return new SimpleJavaFileObject(URI.create("mem:///" + name.replace('$', '_')), kind) {
                @Override
                public OutputStream openOutputStream() {
                    return made.get(name);
                }
            };
        }
    }

    private static boolean holds(Map<String, byte[]> classes, int number) {
        URL tests = EdgeTest.class.getProtectionDomain().getCodeSource().getLocation();
        try (URLClassLoader loader = new Broken(classes, tests)) {
            Method holds = loader.loadClass("EdgeTest").getDeclaredMethod("holds", int.class);
            holds.setAccessible(true);
            return (boolean) holds.invoke(null, number);
        } catch (ReflectiveOperationException | IOException thrown) {
            // A broken class may throw where the whole one answers: the case fails then too.
            return !(thrown instanceof InvocationTargetException);
        }
    }

    /** The tests once more, with another CockWar beside them. */
    private static final class Broken extends URLClassLoader {
        private final Map<String, byte[]> classes;

        Broken(Map<String, byte[]> classes, URL tests) {
            super(new URL[] {tests}, ClassLoader.getPlatformClassLoader());
            this.classes = classes;
        }

        @Override
        protected Class<?> findClass(String name) throws ClassNotFoundException {
            byte[] bytes = classes.get(name);
            return bytes == null ? super.findClass(name) : defineClass(name, bytes, 0, bytes.length);
        }
    }
}
