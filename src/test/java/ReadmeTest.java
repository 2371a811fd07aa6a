import java.io.IOException;
import java.lang.reflect.Field;
import java.lang.reflect.InvocationTargetException;
import java.lang.reflect.Method;
import java.lang.reflect.Modifier;
import java.nio.file.Files;
import java.nio.file.Path;
import java.util.ArrayList;
import java.util.List;
import java.util.TreeSet;
import java.util.regex.Matcher;
import java.util.regex.Pattern;

/** README.md: its example answers what it tells, and its tables have every constant, call and error. */
public final class ReadmeTest {
    private static final Due due = new Due("ReadmeTest");
    private static final Pattern LINE =
            Pattern.compile("x\\.(\\w+)\\(([^)]*)\\); +// (-?\\d+): (\\S+), the place is (\\w)");
    private static final Pattern ERROR =
            Pattern.compile("INVALID_ARGUMENT|NOT_POSSIBLE|LIMIT_REACHED|NOT_FOUND");

    public static void main(String[] args) throws IOException, ReflectiveOperationException {
        String readme = Files.readString(Path.of("README.md"));
        String document = Files.readString(Path.of("../shared/DOC.md"));
        example(readme);
        constants(readme, document);
        calls(readme, document);
        testsAreNamed(readme);
        due.end();
    }

    private static void example(String readme) throws IllegalAccessException, InvocationTargetException {
        TreePlaces x = new TreePlaces();
        int lines = 0;
        for (String line : readme.lines().filter(line -> line.startsWith("x.")).toList()) {
            Matcher told = LINE.matcher(line);
            boolean read = told.matches();
            due.holds("the example says no answer: " + line, read);
            if (read) {
                due.is(line, ask(x, told.group(1), told.group(2)), Integer.parseInt(told.group(3)));
                due.is("the tree after " + line, Trees.told(x), told.group(4));
                due.is("the place after " + line, x.nodeOf(x.count(1), 0), told.group(5).charAt(0) - 'a');
                lines++;
            }
        }
        due.holds("there is an example", lines > 10);
    }

    private static int ask(TreePlaces x, String name, String numbers)
            throws IllegalAccessException, InvocationTargetException {
        List<Object> given = new ArrayList<>();
        for (String number : numbers.isEmpty() ? new String[0] : numbers.split(", ")) {
            given.add(Integer.parseInt(number));
        }
        for (Method method : TreePlaces.class.getMethods()) {
            if (method.getName().equals(name) && method.getParameterCount() == given.size()) {
                return (int) method.invoke(x, given.toArray());
            }
        }
        throw new IllegalArgumentException(name);
    }

    private static void constants(String readme, String document) throws IllegalAccessException {
        for (Field field : TreePlaces.class.getFields()) {
            int value = field.getInt(null);
            String said = saidIn(document, "(?m)`" + field.getName() + " = " + value + "`: (.*)$");
            String row = "| `" + field.getName() + "` | " + value + " | " + said + " |";
            due.holds("README.md has no row " + row, readme.contains(row));
        }
    }

    private static void calls(String readme, String document) {
        int calls = 0;
        for (Method method : TreePlaces.class.getDeclaredMethods()) {
            if (Modifier.isPublic(method.getModifiers())) {
                String name = method.getName();
                String face = saidIn(document, "(?m)^`int (" + name + "\\([^)]*\\))`").replace("int ", "");
                String row = saidIn(readme, "(?m)^(\\| `" + Pattern.quote(face) + "` \\|.*\\|)$");
                String promise = saidIn(document, "(?s)(## Promise \\d+: " + name + "\n.*?)(?:\n## |$)");
                due.holds("README.md has no row of " + face, !row.isEmpty());
                String errors = row.isEmpty() ? "" : row.substring(row.lastIndexOf('|', row.length() - 2));
                due.is("errors of " + face, errors(errors), errors(promise));
                due.is(face + " without errors", String.valueOf(errors.equals("| none |")),
                        String.valueOf(errors(promise).equals("[]")));
                calls++;
            }
        }
        due.is("calls", calls, 31);
    }

    private static String errors(String words) {
        return new TreeSet<>(ERROR.matcher(words).results().map(found -> found.group()).toList()).toString();
    }

    private static String saidIn(String page, String pattern) {
        Matcher said = Pattern.compile(pattern).matcher(page);
        return said.find() ? said.group(1) : "";
    }

    private static void testsAreNamed(String readme) throws IOException {
        try (var files = Files.list(Path.of("src/test/java"))) {
            for (Path file : files.filter(file -> file.toString().endsWith("Test.java")).toList()) {
                String name = file.getFileName().toString().replace(".java", "");
                due.holds("README.md does not name " + name, readme.contains("| `" + name + "` |"));
            }
        }
    }
}
