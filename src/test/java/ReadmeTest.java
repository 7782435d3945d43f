import java.io.File;
import java.io.IOException;
import java.lang.reflect.Method;
import java.lang.reflect.Modifier;
import java.nio.file.Files;
import java.nio.file.Path;
import java.util.HashMap;
import java.util.Map;
import java.util.regex.Matcher;
import java.util.regex.Pattern;

/** README.md: its example answers what stands behind each call, and it names every call and every test. */
public final class ReadmeTest {
    private static final Pattern MADE = Pattern.compile("RopeEnds store = new RopeEnds\\(\\);");
    private static final Pattern CALLED =
        Pattern.compile("(?:int (\\w+) = )?store\\.(\\w+)\\(([^)]*)\\); +// (-?\\d+)(?::.*)?");

    private final Map<String, Long> names = new HashMap<>();
    private RopeEnds store = null;

    public static void main(String[] args) throws IOException, ReflectiveOperationException {
        Path readme = Path.of(System.getProperty("rope.readme"));
        String text = Files.readString(readme);
        new ReadmeTest().example(text);
        namesEachCall(text);
        namesEachTest(text, readme.resolveSibling("src/test/java").toFile());
        Due.end();
    }

    private void example(String text) throws ReflectiveOperationException {
        int start = text.indexOf("```java\n");
        int end = text.indexOf("```", start + 3);
        Due.isSo("README.md has an example", start >= 0 && end > start);
        for (String line : text.substring(start, end).split("\n")) {
            if (MADE.matcher(line).matches()) {
                store = new RopeEnds();
            } else if (!line.isBlank() && !line.startsWith("```")) {
                call(line);
            }
        }
        Due.isSo("the example makes an object", store != null);
    }

    private void call(String line) throws ReflectiveOperationException {
        Matcher call = CALLED.matcher(line);
        boolean isCall = call.matches() && store != null;
        Due.isSo("a call with its answer: " + line, isCall);
        if (!isCall) {
            return;
        }
        long answer = answer(call.group(2), call.group(3).isEmpty() ? new String[0] : call.group(3).split(", "));
        Due.is("README.md: " + line + " --", answer, Long.parseLong(call.group(4)));
        if (call.group(1) != null) {
            names.put(call.group(1), answer);
        }
    }

    private long answer(String name, String[] told) throws ReflectiveOperationException {
        for (Method m : RopeEnds.class.getDeclaredMethods()) {
            if (Modifier.isPublic(m.getModifiers()) && m.getName().equals(name) && m.getParameterCount() == told.length) {
                Object[] given = new Object[told.length];
                for (int i = 0; i < told.length; i++) {
                    long number = names.containsKey(told[i]) ? names.get(told[i]) : Long.decode(told[i]);
                    // Not by ?:, which would make a long of either.
                    given[i] = number;
                    if (m.getParameterTypes()[i] == int.class) {
                        given[i] = Math.toIntExact(number);
                    }
                }
                return ((Number) m.invoke(store, given)).longValue();
            }
        }
        Due.isSo("there is a call " + name + " of " + told.length, false);
        return 0;
    }

    private static void namesEachCall(String text) {
        for (Method m : RopeEnds.class.getDeclaredMethods()) {
            if (Modifier.isPublic(m.getModifiers())) {
                Due.isSo("README.md names " + m.getName(), text.contains("`" + m.getName() + "`"));
            }
        }
    }

    private static void namesEachTest(String text, File folder) {
        String[] files = folder.list((dir, name) -> name.endsWith("Test.java"));
        Due.isSo("there are tests in " + folder, files != null && files.length > 0);
        for (String file : files == null ? new String[0] : files) {
            String name = file.replace(".java", "");
            Due.isSo("README.md names " + name, text.contains("| `" + name + "` |"));
        }
    }
}
