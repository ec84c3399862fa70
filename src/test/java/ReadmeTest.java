import java.io.IOException;
import java.lang.reflect.InvocationTargetException;
import java.lang.reflect.Method;
import java.lang.reflect.Modifier;
import java.nio.file.Files;
import java.nio.file.Path;
import java.util.HashMap;
import java.util.HashSet;
import java.util.Map;
import java.util.Set;
import java.util.regex.Matcher;
import java.util.regex.Pattern;

/**
 * Runs the examples of README.md, from the first to the last on one sorter, and compares each answer with the one
 * that stands behind the call; it is run from the project's directory.
 */
final class ReadmeTest {
    private static final Path README = Path.of("README.md");
    private static final String BEGINNING = "Routepost post = new Routepost();";
    private static final Pattern BLOCK = Pattern.compile("^```java\n(.*?)^```$", Pattern.MULTILINE | Pattern.DOTALL);
    private static final Pattern EXAMPLE = Pattern.compile(
            "(?:(?<kind>\\w+) (?<name>\\w+) = )?post\\.(?<method>\\w+)\\((?<values>[\\w, ]*)\\);"
            + " +// (?<answer>throws \\w+|[^ :]+)(?:: .+)?");

    private static Routepost post;
    private static final Map<String, Integer> NUMBERS = new HashMap<>();
    private static final Set<String> ANSWERED = new HashSet<>();
    private static int calls = 0;

    private ReadmeTest() {
    }

    static void run() {
        Check.test("README, the examples", ReadmeTest::examples);
        Check.test("README, each kind of call", ReadmeTest::eachKindOfCall);
        Check.test("README, the names of tests", ReadmeTest::namesOfTests);
    }

    private static String read() {
        try {
            return Files.readString(README);
        } catch (IOException e) {
            throw new IllegalStateException("no " + README, e);
        }
    }

    private static void examples() {
        Matcher blocks = BLOCK.matcher(read());
        while (blocks.find()) {
            for (String line : blocks.group(1).split("\n")) {
                if (line.equals(BEGINNING)) {
                    post = new Routepost();
                } else {
                    runExample(line);
                }
            }
        }
        Check.same("the examples are at most 512 calls", true, calls > 0 && calls <= 512);
    }

    private static void runExample(String line) {
        Matcher example = EXAMPLE.matcher(line);
        if (!example.matches() || post == null) {
            throw new IllegalStateException("no example: " + line);
        }
        calls++;
        Method method = methodNamed(example.group("method"));
        String name = example.group("name");
        if (name != null) {
            Check.same(line, method.getReturnType().getName(), example.group("kind"));
        }
        Object answer = call(method, valuesOf(example.group("values"), method));
        if (name != null) {
            NUMBERS.put(name, (Integer) answer);
        }
        String shown = answer instanceof Character ? "'" + answer + "'" : String.valueOf(answer);
        Check.same(line, example.group("answer"), shown);
        if (!shown.startsWith("throws ")) {
            ANSWERED.add(method.getName());
        }
    }

    private static Method methodNamed(String name) {
        for (Method method : Routepost.class.getMethods()) {
            if (method.getName().equals(name) && method.getDeclaringClass() == Routepost.class) {
                return method;
            }
        }
        throw new IllegalStateException("no method " + name);
    }

    private static Object[] valuesOf(String text, Method method) {
        String[] parts = text.isEmpty() ? new String[0] : text.split(", ");
        if (parts.length != method.getParameterCount()) {
            throw new IllegalStateException("not the values of " + method);
        }
        Object[] values = new Object[parts.length];
        for (int i = 0; i < parts.length; i++) {
            values[i] = valueOf(parts[i]);
        }
        return values;
    }

    private static Object valueOf(String part) {
        if (part.equals("true") || part.equals("false")) {
            return part.equals("true");
        }
        return NUMBERS.containsKey(part) ? NUMBERS.get(part) : Integer.valueOf(part);
    }

    /** The answer, or the exception's short name behind "throws ". */
    private static Object call(Method method, Object[] values) {
        try {
            return method.invoke(post, values);
        } catch (InvocationTargetException e) {
            return "throws " + e.getCause().getClass().getSimpleName();
        } catch (IllegalAccessException e) {
            throw new IllegalStateException("a public method", e);
        }
    }

    private static void eachKindOfCall() {
        for (Method method : Routepost.class.getDeclaredMethods()) {
            if (Modifier.isPublic(method.getModifiers())) {
                Check.same("there is an example of " + method.getName(), true, ANSWERED.contains(method.getName()));
            }
        }
    }

    private static void namesOfTests() {
        Matcher names = Pattern.compile("`(\\w+Tests?|Model)`").matcher(read());
        int found = 0;
        while (names.find()) {
            found++;
            Path file = Path.of("src", "test", "java", names.group(1) + ".java");
            Check.same(file + " stands", true, Files.exists(file));
        }
        Check.same("names of tests were found", true, found > 0);
    }
}
