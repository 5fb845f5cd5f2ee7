import java.io.IOException;
import java.lang.reflect.Constructor;
import java.lang.reflect.Field;
import java.lang.reflect.Method;
import java.lang.reflect.Modifier;
import java.nio.file.Files;
import java.nio.file.Path;
import java.util.ArrayList;
import java.util.List;
import java.util.Set;
import java.util.TreeSet;
import java.util.regex.Matcher;
import java.util.regex.Pattern;

/** The rules of LANGUAGE.md that a look at the file and at the compiled classes can tell. */
public final class LanguageTest {
    private static final Expect EXPECT = new Expect("LanguageTest");
    private static final Path FILE = Path.of("src/main/java/CoinChild.java");
    private static final int MOST_PARAMETERS = 7;
    private static final int MOST_LINES = 60;
    private static final int MOST_CLASSES = 12;
    private static final int MOST_FIELDS = 20;
    private static final Set<Class<?>> CONSTANTS = Set.of(int.class, long.class, boolean.class,
            char.class, String.class, int[].class, long[].class, char[].class, byte[].class);

    public static void main(String[] args) throws IOException {
        String code = withoutComments(Files.readString(FILE));
        wordsThatAreRuledOut(code);
        libraryThatIsUsed(code);
        methodsAreShort(code);
        List<Class<?>> classes = new ArrayList<>(List.of(CoinChild.class.getDeclaredClasses()));
        classes.forEach(LanguageTest::insideClass);
        classes.add(CoinChild.class);
        EXPECT.yes("classes: " + classes.size(), classes.size() <= MOST_CLASSES);
        classes.forEach(LanguageTest::fields);
        classes.forEach(LanguageTest::parameters);
        privateNames(classes);
        EXPECT.end();
    }

    private static String withoutComments(String text) {
        return text.replaceAll("(?s)/\\*.*?\\*/", "").replaceAll("//[^\n]*", "");
    }

    private static void wordsThatAreRuledOut(String code) {
        String[] ruledOut = {
            "\\bpackage\\b", "\\bprotected\\b", "\\bsynchronized\\b", "\\bassert\\b",
            "\\bfinally\\b", "\\bextends\\s+\\w*(Exception|Error|Throwable)\\b",
            "\\bgetMessage\\b", "\\bhashCode\\b", "\\bThread\\b", "\\bRandom\\b",
            "\\bstatic\\s*\\{", "->", "::"};
        for (String word : ruledOut) {
            EXPECT.no("the file has " + word, Pattern.compile(word).matcher(code).find());
        }
    }

    private static void libraryThatIsUsed(String code) {
        everyOne(code, "import ([^;]*);",
                "java\\.util\\.(ArrayList|List|Arrays|Iterator|NoSuchElementException)");
        everyOne(code, "\\bSystem\\.(\\w+)", "arraycopy");
        everyOne(code, "\\bArrays\\.(\\w+)", "copyOf|copyOfRange|fill");
        everyOne(code, "\\b(?:Math|Integer|Long)\\.(\\w+)", "\\w+(?<!Exact)");
    }

    private static void everyOne(String code, String use, String allowed) {
        Matcher used = Pattern.compile(use).matcher(code);
        while (used.find()) {
            EXPECT.yes("may be used: " + used.group(), used.group(1).matches(allowed));
        }
    }

    /** A method begins at a line that opens a block after its parameters, at its class's depth. */
    private static void methodsAreShort(String code) {
        String[] lines = code.split("\n");
        int found = 0;
        for (int i = 0; i < lines.length; i++) {
            if (lines[i].matches(" {4}( {4})?(\\w+(\\[\\])? )*\\w+\\(.*\\) \\{")
                    && !lines[i].matches(" *(if|for|while|switch) .*")) {
                found++;
                String end = lines[i].replaceAll("\\S.*", "") + "}";
                int last = i;
                while (last < lines.length && !lines[last].equals(end)) {
                    last++;
                }
                EXPECT.yes("lines of " + lines[i].trim(), last - i < MOST_LINES);
            }
        }
        EXPECT.yes("methods are found: " + found, found > CoinChild.class.getMethods().length);
    }

    private static void insideClass(Class<?> inside) {
        int modifiers = inside.getModifiers();
        EXPECT.yes(inside + " is static", Modifier.isStatic(modifiers));
        EXPECT.no(inside + " is open", Modifier.isPublic(modifiers)
                || Modifier.isProtected(modifiers));
    }

    private static void fields(Class<?> owner) {
        int count = 0;
        for (Field field : owner.getDeclaredFields()) {
            if (Modifier.isStatic(field.getModifiers())) {
                EXPECT.yes(field + " is a constant", Modifier.isFinal(field.getModifiers())
                        && CONSTANTS.contains(field.getType()));
            } else {
                count++;
            }
        }
        EXPECT.yes("fields of " + owner + ": " + count, count <= MOST_FIELDS);
    }

    private static void parameters(Class<?> owner) {
        for (Method method : owner.getDeclaredMethods()) {
            EXPECT.yes("parameters of " + method, method.getParameterCount() <= MOST_PARAMETERS);
        }
        for (Constructor<?> made : owner.getDeclaredConstructors()) {
            EXPECT.yes("parameters of " + made, made.getParameterCount() <= MOST_PARAMETERS);
        }
    }

    private static void privateNames(List<Class<?>> classes) {
        Set<String> open = new TreeSet<>();
        for (Method method : CoinChild.class.getDeclaredMethods()) {
            if (Modifier.isPublic(method.getModifiers())) {
                open.add(method.getName());
            }
        }
        for (Class<?> owner : classes) {
            for (Method method : owner.getDeclaredMethods()) {
                EXPECT.no(method + " has a public name",
                        !Modifier.isPublic(method.getModifiers()) && open.contains(method.getName()));
            }
        }
    }
}
