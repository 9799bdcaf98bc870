import java.io.IOException;
import java.lang.reflect.Constructor;
import java.lang.reflect.Field;
import java.lang.reflect.Method;
import java.lang.reflect.Modifier;
import java.nio.file.Files;
import java.nio.file.Path;
import java.util.ArrayList;
import java.util.Arrays;
import java.util.List;
import java.util.Set;
import java.util.TreeSet;
import java.util.regex.Matcher;
import java.util.regex.Pattern;

/** What can be looked up of LANGUAGE.md: the face, by reflection; words, in the source; the library, in the classes. */
public final class LanguageTest {
    private static final String SOURCE = "src/main/java/CockWar.java";
    private static final Set<String> FACE = new TreeSet<>(List.of(
            "int write(int)", "int wipe()", "int fault()", "int hill()", "int tree(int)", "int cock(int,int)",
            "int wind(int,int)", "int blow(int)", "int fell(int)", "int move(int,int)", "int grease(int)",
            "int capture(int)", "int hold(int)", "int undo()", "int under(int)", "int year(int)",
            "int placing(int,int)", "int trees(int,int)", "int decides(int)", "int power(int)",
            "int judge(int,int)", "int see(int,int)", "int unsee()", "int strings(int,int)", "int winds()",
            "int rests(int,int)", "int frost(int,int,boolean)", "long seed(long)", "int years(int)",
            "int keep(int)", "int again(int)", "int count(int)"));
    private static final Set<String> CONSTANTS = Set.of("UNKNOWN", "OUTSIDE", "STATE", "FULL", "NONE");
    /** With what LANGUAGE.md leaves of a word looked away from. */
    private static final List<String> FORBIDDEN = List.of(
            "\\bthrows?\\b", "\\btry\\b", "\\bcatch\\b", "\\bfinally\\b", "\\bsynchronized\\b", "\\bassert\\b",
            "\\bimport (?!java\\.util\\.(\\*|ArrayList|Arrays|Iterator|List);)", "^\\s*package\\b", "::",
            "(?m)^(?!\\s*(case|default)\\b).*->", "\\w+Exact\\(", "\\bSystem\\.(?!arraycopy\\()", "\\bThread\\b",
            "\\bvolatile\\b", "\\bnative\\b", "\\bprotected\\b", "\\b(hashCode|identityHashCode)\\b",
            "\\bstatic \\{", "\\bMath\\.(random|sqrt|pow|sin|cos|log|exp)\\b");
    private static int wrong = 0;

    private static void check(boolean right, String what) {
        if (!right) {
            wrong++;
            System.out.println("not so: " + what);
        }
    }

    public static void main(String[] args) throws IOException {
        face();
        inside();
        words(Files.readString(Path.of(SOURCE)));
        System.out.println("the language: " + wrong + " wrong");
        if (wrong != 0) System.exit(1);
    }

    private static void face() {
        Set<String> methods = new TreeSet<>();
        for (Method m : CockWar.class.getDeclaredMethods()) {
            if (Modifier.isPublic(m.getModifiers())) methods.add(told(m));
            else check(m.isSynthetic() || Modifier.isPrivate(m.getModifiers()), "private " + m);
        }
        check(methods.equals(FACE), "the public methods are the document's: " + methods);
        for (Field f : CockWar.class.getDeclaredFields()) {
            boolean constant = CONSTANTS.contains(f.getName());
            check(constant == Modifier.isPublic(f.getModifiers()), "public only if a constant: " + f);
            check(constant || Modifier.isPrivate(f.getModifiers()), "private " + f);
            check(!constant || Modifier.isStatic(f.getModifiers()) && f.getType() == int.class, "static int " + f);
        }
        Constructor<?>[] made = CockWar.class.getDeclaredConstructors();
        check(made.length == 1 && made[0].getParameterCount() == 0, "one constructor");
        check(Modifier.isPublic(CockWar.class.getModifiers()), "the class is public");
        check(Modifier.isFinal(CockWar.class.getModifiers()), "the class is final");
    }

    private static String told(Method m) {
        StringBuilder s = new StringBuilder(m.getReturnType() + " " + m.getName() + "(");
        for (Class<?> type : m.getParameterTypes()) s.append(s.toString().endsWith("(") ? "" : ",").append(type);
        return s.append(")").toString();
    }

    private static void inside() throws IOException {
        Set<String> publicNames = new TreeSet<>();
        for (String call : FACE) publicNames.add(call.substring(call.indexOf(' ') + 1, call.indexOf('(')));
        List<Class<?>> all = new ArrayList<>(Arrays.asList(CockWar.class.getDeclaredClasses()));
        check(all.size() <= 13, "at most some twelve classes");
        for (Class<?> c : all) {
            check(Modifier.isStatic(c.getModifiers()), "static " + c);
            check(!Modifier.isPublic(c.getModifiers()), "not public " + c);
        }
        all.add(CockWar.class);
        for (Class<?> c : all) {
            fields(c);
            check(Library.forbidden(c).isEmpty(), "no library but what is listed in " + c + ": " + Library.forbidden(c));
            for (Method m : c.getDeclaredMethods()) {
                boolean own = !publicNames.contains(m.getName()) || !Modifier.isPrivate(m.getModifiers());
                check(own, "no private method bears a public one's name: " + m);
                check(m.getParameterCount() <= 7, "at most seven parameters: " + m);
                check(!m.getName().startsWith("lambda$"), "no lambda: " + m);
            }
        }
    }

    private static void fields(Class<?> c) {
        int fields = 0;
        for (Field f : c.getDeclaredFields()) {
            boolean still = Modifier.isStatic(f.getModifiers());
            if (!still) fields++;
            check(!still || Modifier.isFinal(f.getModifiers()), "static and final " + f);
        }
        check(fields <= 24, "at most some twenty fields in " + c);
    }

    private static void words(String source) {
        String code = source.replaceAll("(?s)/\\*.*?\\*/", "").replaceAll("//[^\n]*", "");
        for (String word : FORBIDDEN) {
            Matcher m = Pattern.compile(word).matcher(code);
            check(!m.find(), word + " is not in the source");
        }
        for (char c : code.toCharArray()) check(c < 128, "only plain letters in the code");
        methodsAreShort(source.split("\n"));
    }

    /** A method ends at the first line that closes a brace as far in as its head stands. */
    private static void methodsAreShort(String[] lines) {
        Pattern head = Pattern.compile("^( +)(public|private) [^=;]*\\) \\{$");
        for (int i = 0; i < lines.length; i++) {
            Matcher m = head.matcher(lines[i]);
            if (!m.matches()) continue;
            int end = i;
            while (end < lines.length && !lines[end].equals(m.group(1) + "}")) end++;
            check(end - i <= 70, "at most some sixty lines: " + lines[i].trim());
        }
    }
}
