import java.io.IOException;
import java.nio.file.Files;
import java.nio.file.Path;
import java.util.ArrayList;
import java.util.BitSet;
import java.util.LinkedHashMap;
import java.util.List;
import java.util.Map;

/** The document by its headings, and which of its signs a test has quoted. */
final class Document {
    private final Map<String, String> texts = new LinkedHashMap<>();
    private final Map<String, BitSet> quoted = new LinkedHashMap<>();

    static Document read() {
        try {
            return new Document(Files.readString(Path.of("../shared/DOC.md")));
        } catch (IOException e) {
            throw new IllegalStateException("the document cannot be read", e);
        }
    }

    private Document(String all) {
        for (String part : all.split("(?m)^## ")) {
            int line = part.indexOf('\n');
            String heading = line < 0 ? part : part.substring(0, line);
            String body = line < 0 ? "" : part.substring(line);
            put(heading.replaceAll(":.*", "").trim(), body);
        }
    }

    /** What a promise's face is, FaceTest looks at. */
    private void put(String heading, String body) {
        String text = body.replaceAll("```\\w*", " ").replaceAll("==== \\d\\.", " ").replaceAll("\\s+", " ").trim();
        texts.put(heading, heading.startsWith("Promise") ? text.replaceFirst("^`[^`]*`: ", "") : text);
        quoted.put(heading, new BitSet());
    }

    /** Whether the sentence stands under that heading. */
    boolean quote(String heading, String sentence) {
        String text = texts.getOrDefault(heading, "");
        int at = text.indexOf(sentence);
        boolean stands = at >= 0 && !sentence.isEmpty();
        while (at >= 0 && !sentence.isEmpty()) {
            quoted.get(heading).set(at, at + sentence.length());
            at = text.indexOf(sentence, at + 1);
        }
        return stands;
    }

    /** What no test has quoted of the terms and the promises. */
    List<String> unquoted() {
        List<String> rest = new ArrayList<>();
        for (String heading : texts.keySet()) {
            if (heading.equals("Terms") || heading.startsWith("Promise")) {
                addUnquoted(heading, rest);
            }
        }
        return rest;
    }

    private void addUnquoted(String heading, List<String> rest) {
        String text = texts.get(heading);
        BitSet done = quoted.get(heading);
        int from = done.nextClearBit(0);
        while (from < text.length()) {
            int to = done.nextSetBit(from) < 0 ? text.length() : done.nextSetBit(from);
            String piece = text.substring(from, to);
            if (piece.matches(".*\\w.*")) {
                rest.add(heading + ": " + piece.trim());
            }
            from = done.nextClearBit(to);
        }
    }

    int promises() {
        int many = 0;
        for (String heading : texts.keySet()) {
            many += heading.startsWith("Promise") ? 1 : 0;
        }
        return many;
    }
}
