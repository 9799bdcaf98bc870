import java.io.IOException;
import java.nio.file.Files;
import java.nio.file.Path;
import java.util.HashSet;
import java.util.List;
import java.util.Set;
import java.util.regex.Matcher;
import java.util.regex.Pattern;

/** Runs every case of Edges; and looks that no word of DOC.md's terms and promises is without a case. */
public final class EdgeTest {
    private static final String DOC = "../shared/DOC.md";
    private static int wrong = 0;

    private EdgeTest() {}

    public static void main(String[] args) throws IOException {
        List<Edge> all = Edges.ofAll().all;
        Set<String> keys = new HashSet<>();
        for (Edge edge : all) {
            if (!keys.add(edge.key())) complain(edge.key() + " stands twice");
            for (String what : wrongOf(edge)) complain(edge.key() + ": " + what);
        }
        sentences(all, Files.readString(Path.of(DOC)));
        System.out.println(all.size() + " cases at edges, " + wrong + " wrong");
        if (wrong != 0) System.exit(1);
    }

    private static void complain(String what) {
        wrong++;
        System.out.println(what);
    }

    static List<String> wrongOf(Edge edge) {
        Due t = new Due();
        edge.body.accept(t);
        return t.wrong;
    }

    /** BrokenTest asks it of this class, loaded once more beside a broken CockWar. */
    static boolean holds(int number) {
        return wrongOf(Edges.ofAll().all.get(number)).isEmpty();
    }

    private static void sentences(List<Edge> all, String doc) {
        Section terms = new Section(doc, "## Terms", "Ahead of the calls");
        for (int promise = 1; promise <= 33; promise++) {
            Section own = new Section(doc, "## Promise " + promise + ":", "## ");
            for (Edge edge : all) {
                if (edge.promise == promise && !own.quote(edge.sentence) && !terms.quote(edge.sentence)) {
                    complain(edge.key() + ": DOC.md does not say " + edge.sentence);
                }
            }
            own.unquoted("promise " + promise);
        }
        terms.unquoted("the terms");
    }

    /** A part of DOC.md and which of its words are quoted by a case. */
    private static final class Section {
        private final String text;
        private final boolean[] quoted;

        Section(String doc, String begin, String end) {
            int from = doc.indexOf("\n", doc.indexOf(begin));
            int to = doc.indexOf("\n" + end, from);
            // The heads, fences and numbers of the parts, and the calls themselves, say nothing.
            text = doc.substring(from, to).replaceAll("```\\w*|==== \\d|`[^`]*`:", " ").replaceAll("\\s+", " ");
            quoted = new boolean[text.length()];
        }

        boolean quote(String words) {
            boolean found = false;
            for (int at = text.indexOf(words); at >= 0; at = text.indexOf(words, at + 1)) {
                found = true;
                for (int i = 0; i < words.length(); i++) quoted[at + i] = true;
            }
            return found;
        }

        void unquoted(String name) {
            Matcher word = Pattern.compile("\\w+").matcher(text);
            while (word.find()) {
                if (!quoted[word.start()]) {
                    complain("no case for " + name + " at .. "
                            + text.substring(word.start(), Math.min(text.length(), word.start() + 60)));
                    return;
                }
            }
        }
    }
}
