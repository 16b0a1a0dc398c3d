import java.util.regex.Matcher;
import java.util.regex.Pattern;

/** Each place of the document that names an edge is in a sentence that some test of edges names. */
public final class SentencesTest {
    private static final Pattern EDGE = Pattern.compile("-?\\d+ to -?\\d+|at most|at least|or more|or less|above|below"
            + "|\\b[Nn]one\\b|NONE|BAD|FULL|\\bNO\\b|told ahead|the last one|without|the lowest|the first|cut|empty"
            + "|[Oo]f several|least|fewest|greatest|of most|positive|alone|any case|how many were|how long");
    private static final Pattern LETTER = Pattern.compile("\\b(?:sG|pS|hP|mS|cP|fS|eT|kK|vP),");
    private static final int PROMISES = 29;

    private SentencesTest() {
    }

    public static void main(String[] args) {
        TextBoundsTest.main(args);
        HeardBoundsTest.main(args);
        OddsBoundsTest.main(args);
        BesideBoundsTest.main(args);
        RefusedTest.main(args);
        Check.about("");
        named("What it is", EDGE);
        named("What it is", LETTER);
        named("Terms", EDGE);
        for (int n = 1; n <= PROMISES; n++) {
            String section = "Promise " + n + ":";
            named(section, EDGE);
            boolean some = false;
            for (boolean is : Sentence.named(section)) {
                some |= is;
            }
            Check.holds(section + " has a test of edges", some);
        }
        Check.end();
    }

    private static void named(String section, Pattern edge) {
        String text = Sentence.sectionOf(section);
        boolean[] is = Sentence.named(section);
        Matcher found = edge.matcher(text);
        // what stands ahead of the first rule only says what the class is about
        int from = Math.max(0, text.indexOf("======== 1"));
        while (found.find(from)) {
            from = found.end();
            String around = text.substring(Math.max(0, found.start() - 40), Math.min(text.length(), found.end() + 20));
            Check.holds(section + " '" + found.group() + "' in '" + around + "' has a test of edges", is[found.start()]);
        }
    }
}
