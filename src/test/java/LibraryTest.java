import java.io.DataInputStream;
import java.io.IOException;
import java.io.InputStream;
import java.util.ArrayList;
import java.util.List;

/**
 * Rules 4 and 6 of ../shared/LANGUAGE.md in the compiled classes: which methods and fields of the library they name,
 * whatever stands in the text.
 */
final class LibraryTest {
    private static final int UTF8 = 1;
    private static final int LONG = 5;
    private static final int DOUBLE = 6;
    private static final int CLASS = 7;
    private static final int FIELD = 9;
    private static final int METHOD = 10;
    private static final int INTERFACE_METHOD = 11;
    private static final int METHOD_HANDLE = 15;

    private static final String[] ALLOWED = {
        "java/lang/Object\\.<init>\\(\\)V",
        "java/util/ArrayList\\.<init>\\(\\)V",
        "java/util/(ArrayList|List)\\.(add|get|set|remove|size|isEmpty|clear)\\(.*",
        "java/lang/String\\.(length|charAt|isEmpty|equals|substring|toCharArray)\\(.*",
        "java/lang/String\\.indexOf\\(I\\)I",
        "java/lang/Math\\.(max|min|abs|floorDiv|floorMod)\\([IJ]+\\)[IJ]",
        "java/util/Arrays\\.(copyOf|copyOfRange|fill)\\(\\[[IJSBCZDF].*",
        "java/lang/(IllegalState|IllegalArgument|IndexOutOfBounds|Arithmetic)Exception"
            + "\\.<init>\\((Ljava/lang/String;)?\\)V",
        "java/util/NoSuchElementException\\.<init>\\((Ljava/lang/String;)?\\)V",
    };

    private final int[] tags;
    private final int[] firsts;
    private final int[] seconds;
    private final String[] texts;

    private LibraryTest(DataInputStream in) throws IOException {
        in.readInt();
        in.readInt();
        int count = in.readUnsignedShort();
        tags = new int[count];
        firsts = new int[count];
        seconds = new int[count];
        texts = new String[count];
        for (int i = 1; i < count; i++) {
            readEntry(in, i);
            if (tags[i] == LONG || tags[i] == DOUBLE) {
                i++;
            }
        }
    }

    static void run() {
        Check.test("language, rules 4 and 6, the library that the compiled classes name", LibraryTest::library);
    }

    private static void library() {
        List<Class<?>> classes = new ArrayList<>(List.of(Routepost.class.getDeclaredClasses()));
        classes.add(Routepost.class);
        int found = 0;
        for (Class<?> kind : classes) {
            for (String name : of(kind).members()) {
                found++;
                Check.same(kind.getName() + " may name " + name, true, isAllowed(name));
            }
        }
        Check.same("names were found", true, found > 100);
    }

    private static LibraryTest of(Class<?> kind) {
        try (InputStream bytes = kind.getResourceAsStream(kind.getName() + ".class")) {
            return new LibraryTest(new DataInputStream(bytes));
        } catch (IOException e) {
            throw new IllegalStateException("no compiled " + kind, e);
        }
    }

    private void readEntry(DataInputStream in, int index) throws IOException {
        int tag = in.readUnsignedByte();
        tags[index] = tag;
        if (tag == UTF8) {
            texts[index] = in.readUTF();
        } else if (tag == LONG || tag == DOUBLE) {
            in.readLong();
        } else if (tag == METHOD_HANDLE) {
            in.readUnsignedByte();
            in.readUnsignedShort();
        } else {
            firsts[index] = in.readUnsignedShort();
            // Classes, strings, method types, modules and packages have one part of two bytes, all others four bytes.
            if (tag != CLASS && tag != 8 && tag != 16 && tag != 19 && tag != 20) {
                seconds[index] = in.readUnsignedShort();
            }
        }
    }

    /** The methods and fields that are named, each as its class, its name and its types. */
    private List<String> members() {
        List<String> found = new ArrayList<>();
        for (int i = 1; i < tags.length; i++) {
            boolean isMember = tags[i] == METHOD || tags[i] == INTERFACE_METHOD || tags[i] == FIELD;
            if (isMember) {
                int parts = seconds[i];
                found.add(texts[firsts[firsts[i]]] + "." + texts[firsts[parts]] + texts[seconds[parts]]);
            } else {
                Check.same("nothing is linked when it runs", false, tags[i] == 17 || tags[i] == 18);
            }
        }
        return found;
    }

    private static boolean isAllowed(String name) {
        if (name.matches("Routepost(\\$\\w+)?\\..*")) {
            return true;
        }
        for (String allowed : ALLOWED) {
            if (name.matches(allowed)) {
                return true;
            }
        }
        return false;
    }
}
