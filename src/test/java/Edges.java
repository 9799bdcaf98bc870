import java.util.ArrayList;
import java.util.List;
import java.util.function.Consumer;

/** All cases, in the order of the promises. */
final class Edges {
    final List<Edge> all = new ArrayList<>();
    private int promise;
    private String sentence;

    static Edges ofAll() {
        Edges e = new Edges();
        HillEdges.tell(e);
        ActEdges.tell(e);
        UnderEdges.tell(e);
        SeenEdges.tell(e);
        ChanceEdges.tell(e);
        return e;
    }

    void promise(int number) {
        promise = number;
    }

    /** The words of DOC.md, under the promise or under "Terms", that the next cases hold to. */
    void says(String words) {
        sentence = words;
    }

    Edge edge(String name, Consumer<Due> body) {
        Edge made = new Edge(promise, sentence, name, body);
        all.add(made);
        return made;
    }
}
