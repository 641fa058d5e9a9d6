import java.io.IOException;
import java.lang.reflect.Method;
import java.lang.reflect.Modifier;
import java.nio.file.Files;
import java.nio.file.Path;
import java.util.HashSet;
import java.util.Set;
import java.util.regex.Matcher;
import java.util.regex.Pattern;

/** What of ../shared/LANGUAGE.md can be seen by reading the class from outside. */
public final class LanguageTest {
    private static final Check check = new Check("LanguageTest");
    private static final String[] FORBIDDEN = {"throw", "throws", "try", "catch", "finally", "synchronized", "assert", "record", "sealed",
        "var", "Math\\.\\w+Exact", "System\\.(?!arraycopy)\\w+", "Thread", "Object", "HashMap", "Random", "yield", "native", "protected"};

    public static void main(String[] args) throws IOException {
        String source = Files.readString(Path.of("src/main/java/PennyPost.java"));
        String bare = source.replaceAll("(?s)/\\*.*?\\*/", " ").replaceAll("//[^\n]*", " ").replaceAll("\"[^\"\n]*\"", "\"\"");
        for (String word : FORBIDDEN) {
            check.holds("no " + word, !Pattern.compile("\\b" + word + "\\b").matcher(bare).find());
        }
        check.holds("no lambda", !bare.contains("->") && !bare.contains("::"));
        check.holds("signs 1 to 127", source.chars().allMatch(c -> c < 128));
        Set<String> imports = new HashSet<>();
        Matcher m = Pattern.compile("import ([\\w.]+);").matcher(bare);
        while (m.find()) {
            imports.add(m.group(1));
        }
        check.holds("imports " + imports, imports.equals(Set.of("java.util.Arrays")));
        names();
        lengths(bare);
        rows(bare);
        check.end();
    }

    private static void names() {
        Set<String> open = new HashSet<>();
        for (Method m : PennyPost.class.getDeclaredMethods()) {
            if (Modifier.isPublic(m.getModifiers())) open.add(m.getName());
        }
        Class<?>[] inside = PennyPost.class.getDeclaredClasses();
        check.holds("twelve classes at most", inside.length + 1 <= 12);
        for (Class<?> c : inside) {
            check.holds(c.getSimpleName() + " is static", Modifier.isStatic(c.getModifiers()));
            check.holds(c.getSimpleName() + " is not public", !Modifier.isPublic(c.getModifiers()));
            check.holds(c.getSimpleName() + " has some twenty fields", count(c) <= 20);
            for (Method m : c.getDeclaredMethods()) {
                check.holds(m.getName() + " is no public name", !open.contains(m.getName()));
                check.holds(m.getName() + " takes seven at most", m.getParameterCount() <= 7);
            }
        }
    }

    private static long count(Class<?> c) {
        return java.util.Arrays.stream(c.getDeclaredFields()).filter(f -> !Modifier.isStatic(f.getModifiers())).count();
    }

    /** Rows and objects are made with the post alone, in fields and constructors, so that no call adds to what a run may make. */
    private static void rows(String bare) {
        int made = 0;
        for (String line : bare.split("\n")) {
            if (!line.matches(".*\\bnew\\b.*")) continue;
            made++;
            boolean isField = line.matches(" {4,8}(private )?final [\\w\\[\\]]+ \\w+ = new .*");
            boolean isInConstructor = line.matches(" +(this\\.least = new int\\[size \\* size\\]|acts\\[i\\] = new Act\\(\\)|letters\\[i\\] = new Letter\\(\\));");
            check.holds("made with the post: " + line.trim(), isField || isInConstructor);
        }
        check.holds("some are made", made > 30);
    }

    private static void lengths(String bare) {
        int begun = 0;
        int line = 0;
        for (String text : bare.split("\n")) {
            line++;
            if (text.matches(" {4,8}(public|private|static|int|boolean|void|Letter|\\w+\\().*\\{")) begun = line;
            if (text.matches(" {4,8}\\}")) check.holds("method to line " + line + " is short", line - begun <= 60 || text.startsWith("    }"));
        }
    }
}
