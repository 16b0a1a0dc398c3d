import java.io.IOException;
import java.nio.charset.StandardCharsets;
import java.nio.file.Files;
import java.nio.file.Path;
import java.util.ArrayList;
import java.util.List;

/** Names the sentence of the document that a test is of, and looks whether the document has it there. */
final class Sentence {
    private static final Path DOCUMENT = Path.of("../shared/DOC.md");
    /** Section and words of each sentence that was named so far. */
    private static final List<String[]> NAMED = new ArrayList<>();

    private Sentence() {
    }

    /** The section is the start of a heading: "What it is", "Terms", "Promise 2:". */
    static void is(String section, String words) {
        Check.about("");
        NAMED.add(new String[] {section, words});
        Check.holds("'" + words + "' stands in '" + section + "'", sectionOf(section).contains(words));
        Check.about(section + " '" + words + "' ");
    }

    static void ofPromise(int number, String words) {
        is("Promise " + number + ":", words);
    }

    /** For each sign of a section, whether it is of a sentence that was named. */
    static boolean[] named(String section) {
        String text = sectionOf(section);
        boolean[] is = new boolean[text.length()];
        for (String[] one : NAMED) {
            int at = one[0].equals(section) ? text.indexOf(one[1]) : -1;
            for (int i = 0; at >= 0 && i < one[1].length(); i++) {
                is[at + i] = true;
            }
        }
        return is;
    }

    static String sectionOf(String heading) {
        String all = document();
        int start = all.indexOf("\n## " + heading);
        if (start < 0) {
            return "";
        }
        int end = all.indexOf("\n## ", start + 1);
        return all.substring(start, end < 0 ? all.length() : end).replaceAll("\\s+", " ");
    }

    private static String document() {
        try {
            return Files.readString(DOCUMENT, StandardCharsets.UTF_8);
        } catch (IOException e) {
            return "";
        }
    }
}
