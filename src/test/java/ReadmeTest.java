import java.lang.reflect.Method;
import java.lang.reflect.Modifier;
import java.nio.charset.StandardCharsets;
import java.nio.file.Files;
import java.nio.file.Path;
import java.util.List;
import java.util.TreeSet;
import java.util.regex.Matcher;
import java.util.regex.Pattern;
import java.util.stream.Stream;

/** What README.md says holds: each call that it shows with its answer, the names of all calls, and the table of the tests. */
public final class ReadmeTest {
    private static final String MADE_ANEW = "DependentReplay x = new DependentReplay();";
    private static final Pattern CALL = Pattern.compile("x\\.(\\w+)\\((.*)\\); +// (-?\\d+): .*");
    private static final Pattern TEST_ROW = Pattern.compile("\\| `(\\w+Test)` \\|.*");

    public static void main(String[] arguments) throws Exception {
        List<String> lines = Files.readAllLines(Path.of("README.md"), StandardCharsets.UTF_8);
        calls(lines);
        names(String.join("\n", lines));
        tests(lines);
        Check.end();
    }

    private static void calls(List<String> lines) throws Exception {
        DependentReplay x = null;
        for (String line : lines) {
            if (line.equals(MADE_ANEW)) {
                x = new DependentReplay();
            }
            if (line.startsWith("x.")) {
                Matcher call = CALL.matcher(line);
                Check.due("a call and its answer in \"" + line + "\"", call.matches() ? 1 : 0, 1);
                Check.due(line, answer(x, call.group(1), call.group(2)), Long.parseLong(call.group(3)));
            }
        }
        Check.due("an object in README.md", x == null ? 0 : 1, 1);
    }

    private static long answer(DependentReplay x, String name, String values) throws Exception {
        for (Method method : DependentReplay.class.getDeclaredMethods()) {
            if (Modifier.isPublic(method.getModifiers()) && method.getName().equals(name)) {
                return ((Number) method.invoke(x, given(method.getParameterTypes(), values))).longValue();
            }
        }
        throw new IllegalArgumentException("README.md has a call that is not there: " + name);
    }

    private static Object[] given(Class<?>[] types, String values) {
        String[] texts = values.isEmpty() ? new String[0] : values.split(", ");
        Object[] numbers = new Object[texts.length];
        for (int i = 0; i < texts.length; i++) {
            long number = Long.decode(texts[i].replace("L", ""));
            if (types[i] == int.class) {
                numbers[i] = (int) number;
            } else {
                numbers[i] = number;
            }
        }
        return numbers;
    }

    private static void names(String text) {
        for (Method method : DependentReplay.class.getDeclaredMethods()) {
            if (Modifier.isPublic(method.getModifiers())) {
                Check.due("README.md names " + method.getName(), text.contains("`" + method.getName() + "`") ? 1 : 0, 1);
            }
        }
    }

    private static void tests(List<String> lines) throws Exception {
        TreeSet<String> told = new TreeSet<>();
        for (String line : lines) {
            Matcher row = TEST_ROW.matcher(line);
            if (row.matches()) {
                told.add(row.group(1));
            }
        }
        TreeSet<String> there = new TreeSet<>();
        try (Stream<Path> files = Files.list(Path.of("src/test/java"))) {
            files.map(file -> file.getFileName().toString()).filter(name -> name.endsWith("Test.java"))
                .forEach(name -> there.add(name.replace(".java", "")));
        }
        Check.due("the tests in README.md", told.toString(), there.toString());
    }
}
