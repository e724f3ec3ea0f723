import java.io.IOException;
import java.nio.file.Files;
import java.nio.file.Path;
import java.util.BitSet;
import java.util.Map;
import java.util.TreeMap;

/** The document, so that the tests' quotes of it are sure to be its words, and none of its sentences goes without a test. */
final class Document {
    static final String TERMS = "Terms";
    static final String LINES = "Terms, LINES and FAULTS";
    private static final Path PLACE = Path.of("../shared/DOC.md");

    private final Map<String, String> sections = new TreeMap<>();
    private final Map<String, BitSet> quoted = new TreeMap<>();

    Document() {
        if (!Files.isReadable(PLACE)) {
            System.out.println("there is no " + PLACE + ": the quotes are not compared with it");
            return;
        }
        for (String part : read().split("\n## ")) {
            String heading = part.substring(0, Math.max(part.indexOf('\n'), 0));
            String text = part.substring(heading.length());
            if (heading.startsWith("Promise ")) {
                // what stands before is the method's head, which FaceTest looks at
                put(heading.substring(0, heading.indexOf(':')), text.substring(text.indexOf("`: ") + 3));
            } else if (heading.equals("Terms")) {
                putTerms(text);
            } else if (heading.equals("What it is")) {
                // its last words begin the first sentence of the terms
                put(TERMS, text.substring(text.indexOf("1 VARIABLES")));
            }
        }
    }

    private static String read() {
        try {
            return Files.readString(PLACE);
        } catch (IOException e) {
            throw new AssertionError(e);
        }
    }

    private void putTerms(String text) {
        String[] parts = text.split("```(text)?");
        for (String part : parts) {
            put(part.contains("LINES. THE TAPE") ? LINES : TERMS, part);
        }
    }

    private void put(String heading, String text) {
        String before = sections.containsKey(heading) ? sections.get(heading) + " " : "";
        sections.put(heading, before + text.strip().replaceAll("\\s+", " "));
        quoted.put(heading, new BitSet());
    }

    /** False if these words do not stand under the heading. */
    boolean quote(String heading, String words) {
        if (sections.isEmpty()) {
            return true;
        }
        String text = sections.getOrDefault(heading, "");
        int at = text.indexOf(words);
        for (int from = at; from >= 0; from = text.indexOf(words, from + 1)) {
            quoted.get(heading).set(from, from + words.length());
        }
        return at >= 0;
    }

    /** The words under a heading that no test has quoted. */
    String notQuoted(String heading) {
        String text = sections.getOrDefault(heading, "");
        StringBuilder left = new StringBuilder();
        for (int i = 0; i < text.length(); i++) {
            left.append(quoted.get(heading).get(i) ? ' ' : text.charAt(i));
        }
        return left.toString().replaceAll("[^A-Za-z0-9]+", " ").strip();
    }
}
