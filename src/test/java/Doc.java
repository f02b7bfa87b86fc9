import java.io.IOException;
import java.nio.file.Files;
import java.nio.file.Path;
import java.util.ArrayList;
import java.util.List;
import java.util.Map;
import java.util.TreeMap;

/** The document's sentences: whether one stands there, and which no test has told yet. */
final class Doc {
    /** The number of the section "Terms"; the others are the promises'. */
    static final int TERMS = 0;
    static final int LAST = 47;
    private static final Path PATH = Path.of("../shared/DOC.md");

    private static final Map<Integer, String> SECTIONS = new TreeMap<>();
    private static final Map<Integer, boolean[]> TOLD = new TreeMap<>();

    private Doc() {
    }

    /** Marks a sentence as told wherever it stands in a section; false if it doesn't stand there. */
    static boolean tell(int section, String sentence) {
        read();
        String text = SECTIONS.getOrDefault(section, "");
        boolean stands = false;
        for (int at = text.indexOf(sentence); at >= 0; at = text.indexOf(sentence, at + 1)) {
            stands = true;
            for (int i = at; i < at + sentence.length(); i++) {
                TOLD.get(section)[i] = true;
            }
        }
        return stands && !sentence.isEmpty();
    }

    /** The pieces of a section that no test has told. */
    static List<String> left(int section) {
        read();
        String text = SECTIONS.getOrDefault(section, "no such section");
        boolean[] told = TOLD.getOrDefault(section, new boolean[text.length()]);
        List<String> pieces = new ArrayList<>();
        StringBuilder piece = new StringBuilder();
        for (int i = 0; i <= text.length(); i++) {
            if (i < text.length() && !told[i]) {
                piece.append(text.charAt(i));
            } else {
                if (piece.toString().matches("(?s).*[A-Za-z0-9].*")) {
                    pieces.add(piece.toString().trim());
                }
                piece.setLength(0);
            }
        }
        return pieces;
    }

    /** Whether the document lies beside the checkout; without it the answers are compared all the same. */
    static boolean isThere() {
        return Files.isReadable(PATH);
    }

    private static void read() {
        if (!SECTIONS.isEmpty()) {
            return;
        }
        String doc;
        try {
            doc = Files.readString(PATH);
        } catch (IOException e) {
            throw new IllegalStateException("the document can't be read", e);
        }
        for (String part : doc.split("(?m)^## ")) {
            if (part.startsWith("Terms")) {
                String terms = part.substring("Terms".length());
                int ahead = terms.indexOf("Ahead of the calls");
                keep(TERMS, terms.substring(0, ahead < 0 ? terms.length() : ahead));
            } else if (part.startsWith("Promise ")) {
                int number = Integer.parseInt(part.substring("Promise ".length(), part.indexOf(':')));
                // What stands behind the call's own line: "`int far(int place)`: How FAR ...".
                keep(number, part.substring(part.indexOf("`: ") + 3));
            }
        }
    }

    private static void keep(int section, String text) {
        String plain = text.replaceAll("```(text)?", " ").replaceAll("==== \\d+\\.", " ").replaceAll("\\s+", " ").trim();
        SECTIONS.put(section, plain);
        TOLD.put(section, new boolean[plain.length()]);
    }
}
