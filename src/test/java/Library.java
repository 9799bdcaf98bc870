import java.io.DataInputStream;
import java.io.IOException;
import java.io.InputStream;
import java.util.ArrayList;
import java.util.List;
import java.util.Map;
import java.util.Set;

/** Which methods of the Java library a compiled class calls, and which of them LANGUAGE.md's rule 4 leaves. */
final class Library {
    /** By class; where none are told, all but those whose names end in Exact. What the compiler adds is left too. */
    private static final Map<String, Set<String>> LEFT = Map.ofEntries(
            Map.entry("java/lang/Object", Set.of("<init>", "getClass")),
            Map.entry("java/lang/Enum", Set.of("<init>", "ordinal", "valueOf", "name", "compareTo")),
            Map.entry("java/lang/Record", Set.of("<init>")),
            Map.entry("java/lang/String", Set.of("<init>", "length", "charAt", "isEmpty", "equals", "indexOf",
                    "substring", "toCharArray")),
            Map.entry("java/lang/StringBuilder", Set.of("<init>", "append", "charAt", "setCharAt", "setLength",
                    "deleteCharAt", "reverse", "length", "toString")),
            Map.entry("java/util/ArrayList", Set.of("<init>", "add", "get", "set", "remove", "size", "isEmpty",
                    "clear", "iterator")),
            Map.entry("java/util/List", Set.of("of", "add", "get", "set", "remove", "size", "isEmpty", "clear",
                    "iterator")),
            Map.entry("java/util/Iterator", Set.of("hasNext", "next")),
            Map.entry("java/lang/Iterable", Set.of("iterator")),
            Map.entry("java/lang/Comparable", Set.of("compareTo")),
            Map.entry("java/util/Objects", Set.of("requireNonNull")),
            Map.entry("java/lang/IncompatibleClassChangeError", Set.of("<init>")),
            Map.entry("java/lang/MatchException", Set.of("<init>")),
            Map.entry("java/util/Arrays", Set.of("copyOf", "copyOfRange", "fill")),
            Map.entry("java/lang/System", Set.of("arraycopy")),
            Map.entry("java/lang/Integer", Set.of()),
            Map.entry("java/lang/Long", Set.of()),
            Map.entry("java/lang/Math", Set.of()));

    private Library() {}

    /** As class.method, those that are not left. */
    static List<String> forbidden(Class<?> compiled) throws IOException {
        List<String> found = new ArrayList<>();
        for (String[] call : calls(compiled)) {
            // A class's own calls, and clone of an array.
            if (call[0].startsWith("CockWar") || call[0].startsWith("[")) continue;
            // A record's, of every object; the texts joined by + and lambdas have other ones.
            if (call[0].equals("java/lang/runtime/ObjectMethods")) continue;
            Set<String> left = LEFT.get(call[0]);
            boolean all = left != null && left.isEmpty();
            if (left == null || call[1].endsWith("Exact") || !all && !left.contains(call[1])) {
                found.add(call[0] + "." + call[1]);
            }
        }
        return found;
    }

    /** Each method that the class file's constants name: its class and its name. */
    private static List<String[]> calls(Class<?> compiled) throws IOException {
        String file = compiled.getName() + ".class";
        try (InputStream bytes = compiled.getResourceAsStream(file); DataInputStream in = new DataInputStream(bytes)) {
            in.skipBytes(8);
            int number = in.readUnsignedShort();
            String[] texts = new String[number];
            int[][] parts = new int[number][];
            int[] tags = new int[number];
            for (int i = 1; i < number; i++) {
                tags[i] = in.readUnsignedByte();
                switch (tags[i]) {
                    case 1: texts[i] = in.readUTF(); break;
                    case 3: case 4: in.readInt(); break;
                    // A long or a double takes two places.
                    case 5: case 6: in.readLong(); i++; break;
                    case 7: case 8: case 16: case 19: case 20: parts[i] = new int[] {in.readUnsignedShort()}; break;
                    case 15: parts[i] = new int[] {in.readUnsignedByte(), in.readUnsignedShort()}; break;
                    default: parts[i] = new int[] {in.readUnsignedShort(), in.readUnsignedShort()};
                }
            }
            List<String[]> calls = new ArrayList<>();
            for (int i = 1; i < number; i++) {
                // A method of a class, or of an interface.
                if (tags[i] != 10 && tags[i] != 11) continue;
                calls.add(new String[] {texts[parts[parts[i][0]][0]], texts[parts[parts[i][1]][0]]});
            }
            return calls;
        }
    }
}
