import java.io.IOException;
import java.lang.reflect.Field;
import java.lang.reflect.Method;
import java.lang.reflect.Modifier;
import java.nio.charset.StandardCharsets;
import java.nio.file.Files;
import java.nio.file.Path;
import java.util.List;
import java.util.regex.Matcher;
import java.util.regex.Pattern;
import java.util.stream.Collectors;
import java.util.stream.Stream;

/** README.md says how to use the class and how to run its tests: what it says is so, and nothing is left out. */
public final class ReadmeTest {
    private static final Pattern CALL = Pattern.compile("set\\.(\\w+)\\((.*?)\\); *// (-?\\w+): .+");
    private static final String MADE = "HummingSet set = new HummingSet();";

    private ReadmeTest() {
    }

    public static void main(String[] args) throws IOException, ReflectiveOperationException {
        String page = Files.readString(Path.of("README.md"), StandardCharsets.UTF_8);
        example(page);
        calls(page);
        constants(page);
        items(page);
        tests(page);
        Check.end();
    }

    /** Each line of the example is a call with the answer behind it; they are made one after the other. */
    private static void example(String page) throws ReflectiveOperationException {
        Matcher block = Pattern.compile("(?s)```java\n(.*?)```").matcher(page);
        Check.holds("there is an example", block.find());
        String[] lines = block.group(1).split("\n");
        Check.holds("it begins with " + MADE, lines[0].equals(MADE));
        Check.holds("it has calls", lines.length > 1);
        HummingSet set = new HummingSet();
        for (int i = 1; i < lines.length; i++) {
            Matcher call = CALL.matcher(lines[i]);
            boolean is = call.matches();
            Check.holds(lines[i] + " is a call with its answer", is);
            if (is) {
                Check.due(lines[i], answerOf(set, call.group(1), call.group(2)), numberOf(call.group(3)));
            }
        }
    }

    private static long answerOf(HummingSet set, String name, String told) throws ReflectiveOperationException {
        String[] numbers = told.isEmpty() ? new String[0] : told.split(", ");
        for (Method m : faceMethods()) {
            if (m.getName().equals(name) && m.getParameterCount() == numbers.length) {
                Object[] given = new Object[numbers.length];
                for (int i = 0; i < given.length; i++) {
                    boolean wide = m.getParameterTypes()[i] == long.class;
                    given[i] = wide ? (Object) Long.decode(numbers[i].replace("L", "")) : (Object) Integer.decode(numbers[i]);
                }
                return ((Number) m.invoke(set, given)).longValue();
            }
        }
        throw new IllegalStateException("no call " + name);
    }

    private static long numberOf(String said) throws ReflectiveOperationException {
        return Character.isLetter(said.charAt(0)) ? HummingSet.class.getField(said).getInt(null) : Long.parseLong(said);
    }

    private static List<Method> faceMethods() {
        return Stream.of(HummingSet.class.getDeclaredMethods()).filter(m -> Modifier.isPublic(m.getModifiers()))
                .collect(Collectors.toList());
    }

    /** The names of the numbers are the document's. */
    private static void calls(String page) {
        String face = Sentence.sectionOf("The public face");
        Matcher told = Pattern.compile("public (?:int|long) (\\w+)\\((.*?)\\);").matcher(face);
        int many = 0;
        while (told.find()) {
            String row = "| `" + told.group(1) + "(" + told.group(2).replaceAll("(int|long) ", "") + ")` | ";
            Check.holds(row + "stands on the page", page.contains(row));
            many++;
        }
        Check.due("calls of the face", many, faceMethods().size());
    }

    private static void constants(String page) throws ReflectiveOperationException {
        for (Field f : HummingSet.class.getFields()) {
            String row = "| `" + f.getName() + "` (" + f.getInt(null) + ") | ";
            Check.holds(row + "stands on the page", page.contains(row));
        }
    }

    private static void items(String page) {
        String document = Sentence.sectionOf("What it is");
        for (String item : List.of("sG,L", "pS,K,A,C,W", "hP,T,V", "mS,T,V", "cP,C", "fS,T,L", "eT,V", "kK,Q", "vP,V,R")) {
            Check.holds(item + " stands in the document", document.contains(item + " "));
            Check.holds(item + " stands on the page", page.contains("| `" + item + "` | "));
        }
    }

    private static void tests(String page) throws IOException {
        Check.holds(".ci/run stands on the page", page.contains("\n    .ci/run\n"));
        Check.holds(".ci/run can be run", Files.isExecutable(Path.of(".ci/run")));
        try (Stream<Path> files = Files.list(Path.of("src/test/java"))) {
            for (Path file : files.collect(Collectors.toList())) {
                String name = file.getFileName().toString().replace(".java", "");
                Check.holds(name + " stands on the page", !name.endsWith("Test") || page.contains("| `" + name + "` | "));
            }
        }
        Matcher named = Pattern.compile("\\| `(\\w+Test)` \\| ").matcher(page);
        while (named.find()) {
            Check.holds(named.group(1) + " is there", Files.exists(Path.of("src/test/java/" + named.group(1) + ".java")));
        }
    }
}
