import java.io.IOException;
import java.nio.file.Files;
import java.nio.file.Path;
import java.util.ArrayList;
import java.util.BitSet;
import java.util.LinkedHashMap;
import java.util.List;
import java.util.Map;
import java.util.function.Consumer;

/**
 * The document by its sections, and which of its words are quoted by a test: so that no sentence
 * is left without a test of its own.
 */
final class Doc {
    private static final Path FILE = Path.of("../shared/DOC.md");
    private static final Map<String, String> TEXTS = new LinkedHashMap<>();
    private static final Map<String, BitSet> QUOTED = new LinkedHashMap<>();
    private static String section = "";

    private Doc() {
    }

    static void read() throws IOException {
        TEXTS.clear();
        QUOTED.clear();
        for (String part : Files.readString(FILE).split("(?m)^##+ ")) {
            int end = part.indexOf('\n');
            // What a section calls itself and its call's face are no sentences.
            String title = part.substring(0, end).replaceAll("(Promise \\d+).*", "$1");
            String text = part.substring(end).strip().replaceAll("\\s+", " ");
            TEXTS.put(title, text.replaceAll("^`.*?`: ", ""));
            QUOTED.put(title, new BitSet());
        }
    }

    static void section(String title) {
        section = title;
        Check.part(title);
        Check.holds("section of the document", TEXTS.containsKey(title));
    }

    /** What the section says in these words is what the test asks, on a new object. */
    static void says(String words, Consumer<ClockworkChess> test) {
        Check.part(section + ", \"" + words + "\"");
        String text = TEXTS.getOrDefault(section, "");
        int at = text.indexOf(words);
        Check.holds("the words are in the document", at >= 0);
        if (at >= 0) {
            QUOTED.get(section).set(at, at + words.length());
        }
        try {
            test.accept(new ClockworkChess());
        } catch (RuntimeException fault) {
            Check.holds("no " + fault, false);
        }
    }

    /** All words of all sections are quoted, but for those of the sections named. */
    static void allIsQuoted(List<String> but) {
        Check.part("the document");
        for (Map.Entry<String, String> entry : TEXTS.entrySet()) {
            if (!but.contains(entry.getKey())) {
                for (String rest : unquoted(entry.getValue(), QUOTED.get(entry.getKey()))) {
                    Check.holds("a test for " + entry.getKey() + ", \"" + rest + "\"", false);
                }
            }
        }
    }

    private static List<String> unquoted(String text, BitSet quoted) {
        List<String> rests = new ArrayList<>();
        int from = quoted.nextClearBit(0);
        while (from < text.length()) {
            int to = quoted.nextSetBit(from);
            String rest = text.substring(from, to < 0 ? text.length() : to).strip();
            if (rest.matches("(?s).*\\w.*")) {
                rests.add(rest);
            }
            from = to < 0 ? text.length() : quoted.nextClearBit(to);
        }
        return rests;
    }
}
