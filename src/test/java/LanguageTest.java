import java.io.IOException;
import java.lang.reflect.Field;
import java.lang.reflect.Method;
import java.lang.reflect.Modifier;
import java.lang.reflect.ParameterizedType;
import java.lang.reflect.Type;
import java.nio.file.Files;
import java.nio.file.Path;
import java.util.ArrayList;
import java.util.HashSet;
import java.util.List;
import java.util.Set;
import java.util.regex.Matcher;
import java.util.regex.Pattern;

/**
 * The rules of ../shared/LANGUAGE.md as far as they can be seen in the text or in the compiled class; it is run from
 * the project's directory.
 */
final class LanguageTest {
    private static final Path SOURCE = Path.of("src", "main", "java", "Routepost.java");

    /** Rules 1, 2, 5, 6, 10, 12 and 13, and the task's word that nothing that the machine throws is caught. */
    private static final String[] FORBIDDEN = {
        "^package ", "\\bcatch\\b", "\\bfinally\\b", "->", "::", "\\bassert\\b", "\\bsynchronized\\b", "\\bvar\\b",
        "\\+ \"", "\" \\+", "\\bString\\.", "\\bStream\\b", "\\bSystem\\.(?!arraycopy)", "Exact\\(", "static \\{",
        "\\bMath\\.(?!max|min|abs|floorDiv|floorMod)", "\\bArrays\\.(?!copyOf|copyOfRange|fill)\\b",
        "\\b(equals|hashCode|toString)\\(", "\\bthrow (?!new )", "\\bthrow new \\w+\\((?!\\)|\"[^\"]*\"\\);)",
        "\\bthrow new (?!IllegalState|IllegalArgument|IndexOutOfBounds|Arithmetic|NoSuchElement)",
        "\\b(public|protected) (?!final class Routepost|Routepost\\(|int |char |boolean |float |double )",
        "[^\\x09\\x0a\\x20-\\x7e]",
    };
    private static final Set<Class<?>> PLAIN = Set.of(int.class, long.class, short.class, byte.class, char.class,
            boolean.class, double.class, float.class, void.class, String.class, StringBuilder.class, Integer.class);

    private LanguageTest() {
    }

    static void run() {
        Check.test("language, the text", LanguageTest::text);
        Check.test("language, rule 1", LanguageTest::rule1Members);
        Check.test("language, rule 3", LanguageTest::rule3Types);
        Check.test("language, rule 5", LanguageTest::rule5StaticFields);
        Check.test("language, rule 6, constructors", LanguageTest::rule6Constructors);
        Check.test("language, rule 11", LanguageTest::rule11Sizes);
    }

    private static void text() {
        String text = read();
        for (String forbidden : FORBIDDEN) {
            Matcher matcher = Pattern.compile(forbidden, Pattern.MULTILINE).matcher(text);
            Check.same("no " + forbidden, false, matcher.find());
        }
        Matcher imports = Pattern.compile("^import (.*);$", Pattern.MULTILINE).matcher(text);
        while (imports.find()) {
            boolean isAllowed = imports.group(1).matches(
                    "java\\.util\\.(ArrayList|Arrays|List|Iterator|NoSuchElementException)");
            Check.same("import " + imports.group(1), true, isAllowed);
        }
    }

    private static String read() {
        try {
            return Files.readString(SOURCE);
        } catch (IOException e) {
            throw new IllegalStateException("no source at " + SOURCE, e);
        }
    }

    private static List<Class<?>> classes() {
        List<Class<?>> all = new ArrayList<>(List.of(Routepost.class.getDeclaredClasses()));
        all.add(Routepost.class);
        return all;
    }

    private static void rule1Members() {
        for (Field field : Routepost.class.getDeclaredFields()) {
            Check.same(field.getName() + " is private", true, Modifier.isPrivate(field.getModifiers()));
        }
        Set<String> face = new HashSet<>();
        for (Method method : Routepost.class.getDeclaredMethods()) {
            if (Modifier.isPublic(method.getModifiers())) {
                face.add(method.getName());
            }
        }
        for (Class<?> kind : classes()) {
            boolean isHidden = (kind.getModifiers() & (Modifier.PUBLIC | Modifier.PROTECTED)) == 0;
            Check.same(kind + " is hidden and static", kind != Routepost.class,
                    isHidden && Modifier.isStatic(kind.getModifiers()));
            for (Method method : kind.getDeclaredMethods()) {
                boolean isHiddenName = !Modifier.isPrivate(method.getModifiers()) || !face.contains(method.getName());
                Check.same(method + " doesn't bear a public name", true, isHiddenName);
            }
        }
    }

    private static void rule3Types() {
        for (Class<?> kind : classes()) {
            for (Field field : kind.getDeclaredFields()) {
                Check.same(field + " has an allowed type", true, isAllowed(field.getGenericType()));
            }
            for (Method method : kind.getDeclaredMethods()) {
                Check.same(method + " has an allowed type", true, isAllowed(method.getGenericReturnType()));
                for (Type type : method.getGenericParameterTypes()) {
                    Check.same(method + " has allowed types", true, isAllowed(type));
                }
            }
        }
    }

    private static boolean isAllowed(Type type) {
        if (type instanceof ParameterizedType list) {
            String raw = list.getRawType().getTypeName();
            Type element = list.getActualTypeArguments()[0];
            return raw.matches("java\\.util\\.(ArrayList|List)") && (element == Integer.class || isOwn(element));
        }
        if (type instanceof Class<?> kind && kind.isArray()) {
            Class<?> element = kind.getComponentType();
            Class<?> inner = element.isArray() ? element.getComponentType() : element;
            return inner.isPrimitive() || isOwn(inner) && inner == element;
        }
        return PLAIN.contains(type) || isOwn(type);
    }

    private static boolean isOwn(Type type) {
        return classes().contains(type);
    }

    private static void rule5StaticFields() {
        Set<Class<?>> allowed = Set.of(int.class, long.class, boolean.class, char.class, String.class, int[].class,
                long[].class, char[].class, byte[].class);
        for (Class<?> kind : classes()) {
            for (Field field : kind.getDeclaredFields()) {
                if (Modifier.isStatic(field.getModifiers())) {
                    Check.same(field + " is a constant", true,
                            Modifier.isFinal(field.getModifiers()) && allowed.contains(field.getType()));
                }
            }
        }
    }

    private static void rule6Constructors() {
        Matcher bodies = Pattern.compile("^( +)(public )?[A-Z]\\w*\\([^;]*?\\{\n(.*?)^\\1\\}", Pattern.MULTILINE
                | Pattern.DOTALL).matcher(read());
        int found = 0;
        while (bodies.find()) {
            found++;
            Check.same("no throw in a constructor", false, bodies.group(3).contains("throw"));
        }
        Check.same("constructors were found", true, found > 1);
    }

    private static void rule11Sizes() {
        Check.same("at most some twelve classes", true, classes().size() <= 12);
        for (Class<?> kind : classes()) {
            int fields = 0;
            for (Field field : kind.getDeclaredFields()) {
                fields += Modifier.isStatic(field.getModifiers()) ? 0 : 1;
            }
            Check.same(kind + " has at most some twenty fields", true, fields <= 20);
            for (Method method : kind.getDeclaredMethods()) {
                Check.same(method + " has at most seven parameters", true, method.getParameterCount() <= 7);
            }
        }
        Matcher bodies = Pattern.compile("^((?: {4}){1,2})(?! )[^\n]*\\([^;]*?\\{\n(.*?)^\\1\\}", Pattern.MULTILINE
                | Pattern.DOTALL).matcher(read());
        int found = 0;
        while (bodies.find()) {
            found++;
            Check.same("at most some sixty lines", true, bodies.group(2).lines().count() <= 60);
        }
        Check.same("methods were found", true, found > 90);
    }
}
