import java.io.IOException;
import java.lang.reflect.Method;
import java.nio.file.Files;
import java.nio.file.Path;
import java.util.Arrays;
import java.util.HashSet;
import java.util.List;
import java.util.Set;
import java.util.regex.Matcher;
import java.util.regex.Pattern;
import java.util.stream.Stream;

/** README.md: the post that it tells of answers as it says, and it names every call and every test. */
public final class ReadmeTest {
    private static final Check check = new Check("ReadmeTest");
    private static final Pattern CALL = Pattern.compile("    post\\.(\\w+)\\((.*)\\); +// (-?\\d+): (.*)");

    public static void main(String[] args) throws IOException, ReflectiveOperationException {
        String readme = Files.readString(Path.of("README.md"));
        Set<String> called = example(readme);
        List<String> names = Arrays.stream(PennyPost.class.getDeclaredMethods()).filter(m -> (m.getModifiers() & 1) != 0)
            .map(Method::getName).toList();
        check.holds("every call is in the post of the page, not so: " + minus(names, called), called.containsAll(names));
        Set<String> listed = words(readme, "(?m)^\\| [a-z, ]+ \\| (`\\w+`.*) \\|$");
        check.holds("the table has the calls and no other: " + listed, listed.equals(new HashSet<>(names)));
        tests(readme);
        inside(readme);
        check.end();
    }

    private static Set<String> minus(List<String> all, Set<String> some) {
        Set<String> rest = new HashSet<>(all);
        rest.removeAll(some);
        return rest;
    }

    private static Set<String> example(String readme) throws ReflectiveOperationException {
        PennyPost post = new PennyPost();
        Set<String> called = new HashSet<>();
        for (String line : readme.split("\n")) {
            if (!line.startsWith("    post")) continue;
            Matcher m = CALL.matcher(line);
            check.holds("is a call with its answer: " + line, m.matches());
            if (!m.matches()) continue;
            String[] with = m.group(2).isEmpty() ? new String[0] : m.group(2).split(", ");
            called.add(m.group(1));
            check.due(line.trim(), Long.parseLong(m.group(3)), call(post, m.group(1), with));
            if (m.group(1).equals("write")) check.holds("tells its bytes: " + line, m.group(4).startsWith("\"" + signs(with) + "\""));
        }
        return called;
    }

    private static int call(PennyPost post, String name, String[] with) throws ReflectiveOperationException {
        for (Method m : PennyPost.class.getDeclaredMethods()) {
            if (!m.getName().equals(name) || m.getParameterCount() != with.length) continue;
            Object[] numbers = new Object[with.length];
            for (int i = 0; i < with.length; i++) {
                Class<?> type = m.getParameterTypes()[i];
                numbers[i] = type == boolean.class ? (Object) Boolean.valueOf(with[i])
                    : type == long.class ? (Object) bits(with[i]) : (Object) Integer.valueOf(with[i]);
            }
            return (Integer) m.invoke(post, numbers);
        }
        throw new NoSuchMethodException(name);
    }

    private static long bits(String number) {
        return Long.decode(number.replace("L", ""));
    }

    private static String signs(String[] with) {
        StringBuilder signs = new StringBuilder();
        for (int i = 0; i < Integer.parseInt(with[1]); i++) {
            signs.append((char) (bits(with[0]) >> 8 * i & 255));
        }
        return signs.toString();
    }

    /** The words between ` in what a pattern finds. */
    private static Set<String> words(String text, String pattern) {
        Set<String> words = new HashSet<>();
        Matcher row = Pattern.compile(pattern).matcher(text);
        while (row.find()) {
            Matcher word = Pattern.compile("`(\\w+)`").matcher(row.group(1));
            while (word.find()) {
                words.add(word.group(1));
            }
        }
        return words;
    }

    private static void tests(String readme) throws IOException {
        Set<String> there = new HashSet<>();
        try (Stream<Path> files = Files.list(Path.of("src/test/java"))) {
            files.map(f -> f.getFileName().toString().replace(".java", "")).filter(n -> n.endsWith("Test")).forEach(there::add);
        }
        Set<String> listed = words(readme, "(?m)^\\| (`\\w+Test`.*?) \\|");
        check.holds("the tests are these and no other: " + listed, listed.equals(there));
    }

    private static void inside(String readme) {
        Set<String> classes = new HashSet<>();
        for (Class<?> c : PennyPost.class.getDeclaredClasses()) {
            classes.add(c.getSimpleName());
        }
        Set<String> listed = words(readme, "(?s)(One class with the document's face.*?)\\n\\n");
        check.holds("the classes inside are these and no other: " + listed, listed.equals(classes));
    }
}
