import java.io.IOException;
import java.nio.file.Files;
import java.nio.file.Path;
import java.util.ArrayList;
import java.util.BitSet;
import java.util.List;
import java.util.Map;
import java.util.TreeMap;

/** The words of ../shared/DOC.md under "Terms" and under each promise, and which of them a test has quoted. */
final class Document {
    private static final Path PLACE = Path.of("..", "shared", "DOC.md");
    private final Part terms;
    private final Map<Integer, Part> promises = new TreeMap<>();

    Document() {
        String all;
        try {
            all = Files.readString(PLACE);
        } catch (IOException gone) {
            throw new IllegalStateException("the document can't be read: " + PLACE, gone);
        }
        String[] sections = all.split("\n## ");
        String words = "";
        for (String section : sections) {
            String head = section.substring(0, section.indexOf('\n') < 0 ? section.length() : section.indexOf('\n'));
            String body = section.substring(head.length());
            if (head.equals("Terms")) {
                // What stands behind it orders the interface, and promises nothing.
                words = body.substring(0, body.indexOf("Ahead of the calls")).replace("```text", "").replace("```", "").replaceAll("\n[1-3]\\. ", "\n");
            } else if (head.startsWith("Promise ")) {
                // The call's own line is the face's: FaceTest holds it.
                promises.put(Integer.parseInt(head.substring(8, head.indexOf(':'))), new Part(body.replaceFirst("`[^`]*`: ", "")));
            }
        }
        terms = new Part(words);
    }

    boolean quoteTerms(String words) { return terms.quote(words); }

    boolean quotePromise(int number, String words) { return promises.containsKey(number) && promises.get(number).quote(words); }

    int promises() { return promises.size(); }

    /** Each run of words that no test has quoted. */
    List<String> unquoted() {
        List<String> out = new ArrayList<>();
        terms.rest("Terms", out);
        for (int number : promises.keySet()) promises.get(number).rest("Promise " + number, out);
        return out;
    }

    private static final class Part {
        private final String text;
        private final BitSet quoted = new BitSet();

        Part(String text) { this.text = text; }

        boolean quote(String words) {
            int place = text.indexOf(words);
            // Words that stand there twice are quoted one after the other.
            for (int next = place; next >= 0; next = text.indexOf(words, next + 1)) {
                if (quoted.nextClearBit(next) < next + words.length()) { place = next; break; }
            }
            if (place < 0 || words.isEmpty()) return false;
            quoted.set(place, place + words.length());
            return true;
        }

        void rest(String name, List<String> out) {
            for (int from = quoted.nextClearBit(0); from < text.length(); ) {
                int to = quoted.nextSetBit(from) < 0 ? text.length() : quoted.nextSetBit(from);
                String words = text.substring(from, to).strip();
                if (words.matches("(?s).*[A-Za-z0-9].*")) out.add(name + ": " + words);
                from = quoted.nextClearBit(to);
            }
        }
    }
}
