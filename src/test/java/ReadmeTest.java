import java.io.IOException;
import java.lang.reflect.Method;
import java.nio.file.Files;
import java.nio.file.Path;
import java.util.List;
import java.util.regex.Matcher;
import java.util.regex.Pattern;
import java.util.stream.Collectors;
import java.util.stream.Stream;

/** README.md says how to use the class: its example answers what is said there. */
public final class ReadmeTest {
    private static final Pattern MADE = Pattern.compile("VersionedBlock x = new VersionedBlock\\((\\d+)\\); // .*");
    private static final Pattern CALL = Pattern.compile("x\\.(\\w+)\\((.*)\\); +// (true|false|-?\\d+): .*");

    private final VersionedBlock x;

    private ReadmeTest(int workers) {
        x = new VersionedBlock(workers);
    }

    public static void main(String[] args) throws IOException {
        Path root = Path.of(args[0]);
        String text = Files.readString(root.resolve("README.md"));
        List<String> tests = testsUnder(root);
        Check.sentence("README.md says how to use the class", () -> example(text));
        Check.sentence("README.md names every call", () -> namesEachCall(text));
        Check.sentence("README.md says how to run its tests", () -> namesEachTest(text, tests));
        Check.end();
    }

    private static List<String> testsUnder(Path root) throws IOException {
        try (Stream<Path> files = Files.list(root.resolve("src/test/java"))) {
            return files.map(file -> file.getFileName().toString())
                    .filter(name -> name.endsWith("Test.java"))
                    .map(name -> name.replace(".java", ""))
                    .sorted().collect(Collectors.toList());
        }
    }

    private static void example(String text) {
        String[] lines = text.split("```java\n")[1].split("\n```")[0].split("\n");
        Matcher made = MADE.matcher(lines[0]);
        Check.due("the first line makes an object: " + lines[0], made.matches(), true);
        ReadmeTest test = new ReadmeTest(Integer.parseInt(made.group(1)));
        for (int n = 1; n < lines.length; n++) {
            test.dueOf(lines[n]);
        }
    }

    private void dueOf(String line) {
        Matcher call = CALL.matcher(line);
        boolean told = call.matches();
        Check.due("a call with its answer: " + line, told, true);
        if (told) {
            String answer = String.valueOf(answer(call.group(1), call.group(2)));
            Check.due(line + " (answered " + answer + ")", answer.equals(call.group(3)), true);
        }
    }

    private Object answer(String name, String arguments) {
        String[] given = arguments.isEmpty() ? new String[0] : arguments.split(", ");
        Method method = methodOf(name, given.length);
        Object[] values = new Object[given.length];
        for (int i = 0; i < given.length; i++) {
            long value = numberOf(given[i]);
            // Two branches, as ?: would make a long of both.
            if (method.getParameterTypes()[i] == int.class) {
                values[i] = Math.toIntExact(value);
            } else {
                values[i] = value;
            }
        }
        try {
            return method.invoke(x, values);
        } catch (ReflectiveOperationException thrown) {
            throw new IllegalStateException(name + ": " + thrown.getCause());
        }
    }

    private static long numberOf(String written) {
        return written.startsWith("0x")
                ? Long.parseUnsignedLong(written.substring(2, written.length() - 1), 16)
                : Long.parseLong(written);
    }

    private static Method methodOf(String name, int parameters) {
        for (Method method : VersionedBlock.class.getDeclaredMethods()) {
            if (method.getName().equals(name) && method.getParameterCount() == parameters) {
                return method;
            }
        }
        throw new IllegalStateException("no such call: " + name);
    }

    private static void namesEachCall(String text) {
        for (Method method : VersionedBlock.class.getMethods()) {
            if (method.getDeclaringClass() == VersionedBlock.class) {
                Check.due("| `" + method.getName() + "(", text.contains("| `" + method.getName() + "("), true);
            }
        }
    }

    private static void namesEachTest(String text, List<String> tests) {
        Check.due(".ci/run", text.contains("    .ci/run\n"), true);
        for (String test : tests) {
            Check.due("| " + test + " |", text.contains("| " + test + " |"), true);
        }
    }
}
