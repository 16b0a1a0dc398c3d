import java.io.IOException;
import java.lang.reflect.Constructor;
import java.lang.reflect.Field;
import java.lang.reflect.Method;
import java.lang.reflect.Modifier;
import java.nio.charset.StandardCharsets;
import java.nio.file.Files;
import java.nio.file.Path;
import java.util.ArrayList;
import java.util.Collections;
import java.util.List;
import java.util.regex.Matcher;
import java.util.regex.Pattern;

/** The public face of the document, and what can be read off the file of LANGUAGE.md. */
public final class FaceTest {
    private static final String[] METHODS = {
        "int write(int,long)", "int wipe()", "int fault()", "int lay()", "int part(int,int)",
        "int hum(int,int,int)", "int in(int,int,int,int)", "int heard(int,int,int)", "int ask(int,int,int,int)",
        "int risk(int,int)", "int volts(int,int)", "int safe()", "int answer(int,int,int,int)", "int forget()",
        "long possible(int)", "long odds(int,int)", "int likeliest()", "long next(int,int)", "int change(int,int)",
        "long oneByOne(int)", "int louder(int)", "int howls()", "int goes(int,int)", "int nextToGo(int)",
        "int set(int)", "int keep()", "int back()", "int count(int)"};

    private FaceTest() {
    }

    public static void main(String[] args) throws IOException, ReflectiveOperationException {
        constants();
        methods();
        classesInside();
        String code = codeOf(Path.of("src/main/java/HummingSet.java"));
        words(code);
        rowsMadeOnce(code);
        shortMethods(code);
        Check.end();
    }

    private static void constants() throws ReflectiveOperationException {
        int open = 0;
        for (Field f : HummingSet.class.getDeclaredFields()) {
            int is = f.getModifiers();
            if (!Modifier.isPrivate(is)) {
                open++;
                Check.holds(f + " is a constant", Modifier.isPublic(is) && Modifier.isStatic(is) && Modifier.isFinal(is));
            }
            Check.holds(f + ": static fields are final", !Modifier.isStatic(is) || Modifier.isFinal(is));
        }
        Check.due("constants", open, 4);
        Check.due("BAD", HummingSet.BAD, -1);
        Check.due("NO", HummingSet.NO, -2);
        Check.due("FULL", HummingSet.FULL, -3);
        Check.due("NONE", HummingSet.NONE, -4);
        Constructor<?>[] made = HummingSet.class.getDeclaredConstructors();
        Check.holds("one public constructor", made.length == 1 && Modifier.isPublic(made[0].getModifiers())
                && made[0].getParameterCount() == 0);
        Check.holds("the class is final", Modifier.isFinal(HummingSet.class.getModifiers()));
    }

    private static void methods() {
        List<String> due = new ArrayList<>(List.of(METHODS));
        List<String> is = new ArrayList<>();
        for (Method m : HummingSet.class.getDeclaredMethods()) {
            boolean named = List.of(METHODS).stream().anyMatch(x -> x.contains(" " + m.getName() + "("));
            Check.holds(m + ": public, or private by another name", Modifier.isPublic(m.getModifiers())
                    || Modifier.isPrivate(m.getModifiers()) && !named);
            if (Modifier.isPublic(m.getModifiers())) {
                StringBuilder said = new StringBuilder(m.getReturnType() + " " + m.getName() + "(");
                for (Class<?> p : m.getParameterTypes()) {
                    said.append(said.toString().endsWith("(") ? "" : ",").append(p);
                }
                is.add(said.append(")").toString());
            }
        }
        Collections.sort(due);
        Collections.sort(is);
        Check.holds("methods " + is, due.equals(is));
    }

    private static void classesInside() {
        Class<?>[] inside = HummingSet.class.getDeclaredClasses();
        Check.holds("some twelve classes", inside.length <= 12);
        for (Class<?> c : inside) {
            Check.holds(c + " is private and static", Modifier.isPrivate(c.getModifiers()) && Modifier.isStatic(c.getModifiers()));
            Check.holds(c + " has some twenty fields", c.getDeclaredFields().length <= 20);
            for (Method m : c.getDeclaredMethods()) {
                Check.holds(m + ": no name of the face", List.of(METHODS).stream().noneMatch(x -> x.contains(" " + m.getName() + "(")));
                Check.holds(m + " takes seven at most", m.getParameterCount() <= 7);
            }
        }
    }

    private static String codeOf(Path file) throws IOException {
        String all = Files.readString(file, StandardCharsets.UTF_8);
        return all.replaceAll("(?s)/\\*.*?\\*/", "").replaceAll("//[^\n]*", "");
    }

    private static void words(String code) {
        String[] out = {"import", "package", "throw", "throws", "try", "catch", "finally", "synchronized", "assert",
            "System", "Random", "Thread", "double", "float", "protected", "equals", "hashCode", "toString", "volatile",
            "\\w+Exact", "->", "::"};
        for (String word : out) {
            String pattern = Character.isLetter(word.charAt(0)) || word.startsWith("\\") ? "\\b" + word + "\\b" : word;
            Check.holds("no " + word, !Pattern.compile(pattern).matcher(code).find());
        }
        Matcher used = Pattern.compile("\\b(Math|Integer|Long)\\.(\\w+)").matcher(code);
        while (used.find()) {
            Check.holds(used.group(), List.of("max", "min", "abs", "bitCount").contains(used.group(2)));
        }
    }

    /** No call makes an object: what is made is made with a field, or in a constructor's loop. */
    private static void rowsMadeOnce(String code) {
        Pattern field = Pattern.compile(" +private (static )?(final )?[\\w\\[\\]]+ \\w+ = new .*;");
        String inside = "";
        int rows = 0;
        for (String line : code.split("\n")) {
            if (line.matches(" {4,8}(public|private) .*\\{")) {
                inside = line;
            }
            if (line.matches(".*\\bnew\\b.*")) {
                rows++;
                boolean constructor = inside.matches(" +(public|private) \\w+\\(.*");
                Check.holds(line.trim() + " is made with a field or in a constructor", field.matcher(line).matches() || constructor);
            }
        }
        Check.holds("rows are made, " + rows + " times in the text", rows > 0);
    }

    /** A method's lines, from its head (four or eight blanks deep) to the brace that ends it. */
    private static void shortMethods(String code) {
        String[] lines = code.split("\n");
        for (int i = 0; i < lines.length; i++) {
            Matcher head = Pattern.compile("^( {4}| {8})(public|private)\\b.*\\) \\{$").matcher(lines[i]);
            if (head.matches()) {
                int end = i;
                while (end < lines.length && !lines[end].equals(head.group(1) + "}")) {
                    end++;
                }
                Check.holds(lines[i].trim() + " has " + (end - i) + " lines", end - i <= 60);
            }
        }
    }
}
