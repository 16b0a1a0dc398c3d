import java.io.IOException;
import java.nio.charset.StandardCharsets;
import java.nio.file.Files;
import java.nio.file.Path;

/** Names the sentence of the document that a test is of, and looks whether the document has it there. */
final class Sentence {
    private static final Path DOCUMENT = Path.of("../shared/DOC.md");

    private Sentence() {
    }

    /** The section is the start of a heading: "What it is", "Terms", "Promise 2:". */
    static void is(String section, String words) {
        Check.about("");
        Check.holds("'" + words + "' stands in '" + section + "'", sectionOf(section).contains(words));
        Check.about(section + " '" + words + "' ");
    }

    static void ofPromise(int number, String words) {
        is("Promise " + number + ":", words);
    }

    private static String sectionOf(String heading) {
        String all = document();
        int start = all.indexOf("\n## " + heading);
        if (start < 0) {
            return "";
        }
        int end = all.indexOf("\n## ", start + 1);
        return all.substring(start, end < 0 ? all.length() : end).replaceAll("\\s+", " ");
    }

    private static String document() {
        try {
            return Files.readString(DOCUMENT, StandardCharsets.UTF_8);
        } catch (IOException e) {
            return "";
        }
    }
}
