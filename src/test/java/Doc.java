import java.io.IOException;
import java.io.UncheckedIOException;
import java.nio.file.Files;
import java.nio.file.Path;
import java.util.ArrayList;
import java.util.LinkedHashMap;
import java.util.List;
import java.util.Map;
import java.util.Set;

/** ../shared/DOC.md, part by part, and which of its sentences the edge tests have named. */
final class Doc {
    private static final Map<String, List<String>> LINES = read();
    private static final Map<String, List<String>> NAMED = new LinkedHashMap<>();

    /** Parts that say nothing of what a call answers. */
    private static final Set<String> NO_PROMISE = Set.of("", "The public face", "Description", "Not promised");

    private Doc() {
    }

    private static Map<String, List<String>> read() {
        Map<String, List<String>> all = new LinkedHashMap<>();
        String part = "";
        try {
            for (String each : Files.readAllLines(Path.of("../shared/DOC.md"))) {
                String line = each.trim();
                if (line.startsWith("## ")) {
                    part = line.substring(3).replaceAll(":.*", "");
                } else if (line.matches("[A-Z, ]+")) {
                    part = line;
                } else if (line.equals("The constants:")) {
                    part = "The constants";
                } else if (!line.isEmpty()) {
                    all.computeIfAbsent(part, k -> new ArrayList<>()).add(line);
                }
            }
        } catch (IOException e) {
            throw new UncheckedIOException(e);
        }
        return all;
    }

    /** What is tested next is this sentence of this part of the document; it has to stand there, word by word. */
    static void edge(String part, String sentence) {
        Check.about(part + ": " + sentence);
        boolean stands = LINES.getOrDefault(part, List.of()).stream().anyMatch(line -> line.contains(sentence));
        if (!stands) {
            Check.fail("the document has no such sentence");
        }
        NAMED.computeIfAbsent(part, k -> new ArrayList<>()).add(sentence);
    }

    /** Each sentence has to be named by a test, wholly or in a part, but for those that name no edge. */
    static void eachIsNamed(Set<String> withoutEdge) {
        Check.about("the edge tests");
        for (Map.Entry<String, List<String>> part : LINES.entrySet()) {
            if (NO_PROMISE.contains(part.getKey())) {
                continue;
            }
            List<String> named = NAMED.getOrDefault(part.getKey(), List.of());
            for (String line : part.getValue()) {
                for (String sentence : sentences(line)) {
                    boolean tested = named.stream().anyMatch(n -> n.contains(sentence) || sentence.contains(n));
                    if (!tested && !withoutEdge.contains(sentence)) {
                        Check.fail("none names " + part.getKey() + ": " + sentence);
                    }
                }
            }
        }
    }

    /** Signatures and headings inside a part are no sentences. */
    private static List<String> sentences(String line) {
        if (line.startsWith("`") || line.startsWith("----")) {
            return List.of();
        }
        return List.of(line.split("(?<=[.;])\\s+"));
    }
}
