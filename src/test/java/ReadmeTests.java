import java.io.IOException;
import java.lang.reflect.Method;
import java.lang.reflect.Modifier;
import java.nio.file.DirectoryStream;
import java.nio.file.Files;
import java.nio.file.Path;
import java.util.Set;
import java.util.TreeSet;
import java.util.regex.Matcher;
import java.util.regex.Pattern;

/** README.md is there, names what there is to call and to run, and its example answers what it tells. */
public final class ReadmeTests {
    /** As the document's public face has them. */
    private static final String[] FACE = {
        "constant(kind, version, name, loud)", "part(kind, version, name, sort, of)", "check(kind, version, how, a, b)",
        "hold(place, kind, version, name)", "row(place, n)", "item(place, i, v)", "share(place, from)",
        "give(p, v, place)", "make(kind, version, place)", "about(place, what)", "number(place, p)",
        "take(place, p, to)", "like(a, b)", "write(place)", "leaf(k)", "set(k, v)", "cut(n)",
        "read(version, place)", "cause(what)", "status()", "count(what)",
    };
    private static final Pattern EXAMPLE = Pattern.compile("(?s)\n## Example\n.*?\n```java\n(.*?)\n```\n");
    private static final Pattern CALL = Pattern.compile("x\\.(\\w+)\\(([^)]*)\\);\\s+// (-?\\d+)(: \\S.*)?");

    private static int wrong = 0;

    private static void due(String what, boolean holds) {
        if (!holds) {
            wrong++;
            System.out.println("README.md: " + what);
        }
    }

    private static void methods(String readme) {
        Set<String> names = new TreeSet<>();
        for (String method : FACE) {
            names.add(method.substring(0, method.indexOf('(')));
            due("tells nothing of " + method,
                Pattern.compile("\n\\| `" + Pattern.quote(method) + "` \\| \\w.*\\w.* \\|\n").matcher(readme).find());
        }
        Set<String> there = new TreeSet<>();
        for (Method m : RecordLeaves.class.getDeclaredMethods()) {
            if (Modifier.isPublic(m.getModifiers())) {
                there.add(m.getName());
            }
        }
        due("the methods that this test asks for are not those of the class " + there, names.equals(there));
    }

    private static void constants(String readme) {
        due("BAD", readme.contains("| `BAD` (" + RecordLeaves.BAD + ") |"));
        due("FULL", readme.contains("| `FULL` (" + RecordLeaves.FULL + ") |"));
        due("NONE", readme.contains("| `NONE` (" + RecordLeaves.NONE + ") |"));
    }

    private static void tests(String readme, Path folder) throws IOException {
        due("how to run the tests", readme.contains("\n## Tests\n\n```sh\n.ci/run\n```\n"));
        due("the tests under ../shared/tests", readme.contains("`../shared/tests`"));
        try (DirectoryStream<Path> files = Files.newDirectoryStream(folder, "*.java")) {
            for (Path file : files) {
                String name = "`src/test/java/" + file.getFileName() + "`";
                due("does not name " + name, readme.contains("\n- " + name + ": "));
            }
        }
    }

    private static void example(String readme) throws ReflectiveOperationException {
        Matcher found = EXAMPLE.matcher(readme);
        if (!found.find()) {
            due("has no example", false);
            return;
        }
        RecordLeaves x = new RecordLeaves();
        int calls = 0;
        for (String line : found.group(1).split("\n")) {
            Matcher call = CALL.matcher(line);
            if (call.matches()) {
                calls++;
                answers(x, line, call);
            } else {
                due("a line of the example is no call with its answer: " + line,
                    line.isEmpty() || line.startsWith("// ") || line.equals("RecordLeaves x = new RecordLeaves();"));
            }
        }
        due("the example has but " + calls + " calls", calls >= 10);
    }

    private static void answers(RecordLeaves x, String line, Matcher call) throws ReflectiveOperationException {
        String[] texts = call.group(2).isEmpty() ? new String[0] : call.group(2).split(", ");
        for (Method m : RecordLeaves.class.getMethods()) {
            if (m.getName().equals(call.group(1)) && m.getParameterCount() == texts.length) {
                Object[] values = new Object[texts.length];
                for (int i = 0; i < texts.length; i++) {
                    values[i] = value(m.getParameterTypes()[i], texts[i]);
                }
                long answer = ((Number) m.invoke(x, values)).longValue();
                due("answered " + answer + ": " + line, answer == Long.parseLong(call.group(3)));
                return;
            }
        }
        due("there is no such method: " + line, false);
    }

    private static Object value(Class<?> type, String text) {
        if (type == boolean.class) {
            return text.equals("true");
        }
        if (type == long.class) {
            return Long.parseLong(text.replaceFirst("L$", ""));
        }
        return Integer.parseInt(text);
    }

    public static void main(String[] args) throws Exception {
        Path root = Path.of(System.getProperty("root", "."));
        Path file = root.resolve("README.md");
        if (Files.isRegularFile(file)) {
            String readme = Files.readString(file);
            methods(readme);
            constants(readme);
            tests(readme, root.resolve("src/test/java"));
            example(readme);
        } else {
            due("is not there", false);
        }
        System.out.println(wrong == 0 ? "README.md is as it should be" : wrong + " faults");
        if (wrong != 0) {
            System.exit(1);
        }
    }
}
