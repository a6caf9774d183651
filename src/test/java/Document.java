import java.io.IOException;
import java.nio.file.Files;
import java.nio.file.Path;

/** What DOC.md says, by its parts: 0 is all ahead of the promises, the others are the promises. */
final class Document {
    static final int PROMISES = 41;

    private final String[] parts = new String[PROMISES + 1];

    Document() throws IOException {
        String text = Files.readString(Path.of("../shared/DOC.md"));
        String promised = text.substring(0, text.indexOf("## Not promised"));
        String[] cut = promised.split("## Promise [0-9]+: ");
        if (cut.length != parts.length) {
            throw new IOException("DOC.md has " + (cut.length - 1) + " promises");
        }
        for (int i = 0; i < cut.length; i++) {
            parts[i] = folded(cut[i]);
        }
    }

    /** Whether these words stand in a part as they are, but for blanks and line ends. */
    boolean says(int part, String words) {
        return parts[part].contains(folded(words));
    }

    private static String folded(String text) {
        return text.replace("```text", "").replace("```", "").replaceAll("\\s+", " ");
    }
}
