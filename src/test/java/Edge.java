import java.util.ArrayList;
import java.util.List;
import java.util.function.Consumer;

/** A case of its own for an edge that a sentence of DOC.md names, and ways to break that sentence. */
final class Edge {
    /** What stands once in a method of CockWar.java (in all of it: ""), and what breaks the sentence. */
    record Break(String method, String old, String broken) {}

    final int promise;
    final String sentence;
    final String name;
    final Consumer<Due> body;
    final List<Break> breaks = new ArrayList<>();

    Edge(int promise, String sentence, String name, Consumer<Due> body) {
        this.promise = promise;
        this.sentence = sentence;
        this.name = name;
        this.body = body;
    }

    /** The method is told by its name, with its class ahead of it where two classes have it. */
    Edge brokenIn(String method, String old, String broken) {
        breaks.add(new Break(method, old, broken));
        return this;
    }

    String key() {
        return "promise " + promise + ", " + name;
    }
}
