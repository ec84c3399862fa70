import java.io.IOException;
import java.nio.file.Files;
import java.nio.file.Path;
import java.util.regex.Matcher;
import java.util.regex.Pattern;

/** Some rules of ../shared/LANGUAGE.md that can be seen in the text; it is run from the project's directory. */
final class LanguageTest {
    private static final Path SOURCE = Path.of("src", "main", "java", "Routepost.java");

    /** Rules 1, 2, 6, 10 and 12, and the task's word that nothing that the machine throws is caught. */
    private static final String[] FORBIDDEN = {
        "^package ", "\\bcatch\\b", "\\bfinally\\b", "->", "::", "\\bassert\\b", "\\bsynchronized\\b",
        "\\+ \"", "\" \\+", "\\bString\\.", "\\bStream\\b", "\\bSystem\\.(?!arraycopy)", "Exact\\(",
        "\\b(public|protected) (?!final class Routepost|Routepost\\(|int |char |boolean |float |double )",
    };

    private LanguageTest() {
    }

    static void run() {
        Check.test("language", LanguageTest::language);
    }

    private static void language() {
        String text = read();
        for (String forbidden : FORBIDDEN) {
            Matcher matcher = Pattern.compile(forbidden, Pattern.MULTILINE).matcher(text);
            Check.same("no " + forbidden, false, matcher.find());
        }
        Matcher imports = Pattern.compile("^import (.*);$", Pattern.MULTILINE).matcher(text);
        while (imports.find()) {
            boolean isAllowed = imports.group(1).matches(
                    "java\\.util\\.(ArrayList|Arrays|List|Iterator|NoSuchElementException)");
            Check.same("import " + imports.group(1), true, isAllowed);
        }
    }

    private static String read() {
        try {
            return Files.readString(SOURCE);
        } catch (IOException e) {
            throw new IllegalStateException("no source at " + SOURCE, e);
        }
    }
}
