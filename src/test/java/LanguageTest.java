import java.io.IOException;
import java.lang.reflect.Constructor;
import java.lang.reflect.Field;
import java.lang.reflect.Method;
import java.lang.reflect.Modifier;
import java.nio.file.Files;
import java.nio.file.Path;
import java.util.ArrayList;
import java.util.List;
import java.util.Set;
import java.util.TreeSet;
import java.util.regex.Matcher;
import java.util.regex.Pattern;

/**
 * The class keeps to those rules of LANGUAGE.md that can be seen in its text and by reflection. Run
 * from the project's folder. What it can't see: rule 7 to 9 and what a run makes.
 */
public final class LanguageTest {
    private static final Set<String> LIBRARY = Set.of("java.util.ArrayList", "java.util.Arrays",
            "java.util.List", "java.util.Iterator", "java.util.NoSuchElementException");
    private static final Set<String> STATIC_CALLS = Set.of("Math.max", "Math.min", "Math.abs",
            "Math.floorDiv", "Math.floorMod", "Integer.compare", "Integer.max", "Integer.min",
            "Integer.bitCount", "Long.compare", "Long.bitCount", "System.arraycopy",
            "Arrays.copyOf", "Arrays.copyOfRange", "Arrays.fill", "List.of");
    private static final Set<String> LIST_CALLS =
            Set.of("add", "get", "set", "remove", "size", "isEmpty", "clear");
    private static final Set<String> THROWN = Set.of("IllegalStateException",
            "IllegalArgumentException", "IndexOutOfBoundsException", "ArithmeticException",
            "UnsupportedOperationException", "NoSuchElementException", "RuntimeException");
    private static final Set<String> STATIC_TYPES = Set.of("int", "long", "boolean", "char",
            "String", "int[]", "long[]", "char[]", "byte[]");

    public static void main(String[] args) throws IOException {
        String text = Files.readString(Path.of("src/main/java/HousePlans.java"));
        String code = withoutCommentsAndTexts(text);
        theText(text, code);
        theLibrary(code);
        theExceptions(code);
        theLengths(text);
        List<Class<?>> classes = new ArrayList<>(List.of(HousePlans.class.getDeclaredClasses()));
        theClassesInside(classes);
        classes.add(HousePlans.class);
        for (Class<?> each : classes) {
            theFields(each);
            theMethods(each);
        }
        Check.end();
    }

    private static String withoutCommentsAndTexts(String text) {
        return text.replaceAll("(?s)/\\*.*?\\*/", " ").replaceAll("//[^\n]*", " ")
                .replaceAll("\"[^\"\n]*\"", "\"\"");
    }

    private static Set<String> found(String code, String pattern) {
        Set<String> found = new TreeSet<>();
        Matcher matcher = Pattern.compile(pattern).matcher(code);
        while (matcher.find()) {
            found.add(matcher.group(1));
        }
        return found;
    }

    private static void none(String what, Set<String> found) {
        Check.due("[]", what, () -> found);
    }

    private static void onlyOf(Set<String> allowed, String what, Set<String> found) {
        found.removeAll(allowed);
        none(what + " beside those that are allowed", found);
    }

    private static void theText(String text, String code) {
        none("signs beyond 127", found(text, "([^\\x01-\\x7f])"));
        none("a package line", found(code, "\\b(package)\\b"));
        none("words that the rules leave out", found(code,
                "\\b(synchronized|assert|finally|volatile|native|transient|goto)\\b"));
        none("lambdas and method references", found(code, "(->|::)"));
    }

    private static void theLibrary(String code) {
        onlyOf(LIBRARY, "imports", found(code, "\\bimport\\s+([^;]+);"));
        onlyOf(STATIC_CALLS, "static calls",
                found(code, "\\b((?:Math|Integer|Long|System|Arrays|List)\\.\\w+)\\("));
        onlyOf(LIST_CALLS, "calls of lists", found(code, "\\b\\w+List\\.(\\w+)\\("));
    }

    /** Rule 6, and none of what the machine throws is caught, by its name or by one above it. */
    private static void theExceptions(String code) {
        none("throws of something made elsewhere", found(code, "\\bthrow\\s+((?!new\\b)\\w+)"));
        onlyOf(THROWN, "exceptions thrown", found(code, "\\bthrow\\s+new\\s+(\\w+)"));
        none("machine exceptions caught", found(code, "catch\\s*\\([^)]*\\b(ArrayIndex\\w+"
                + "|IndexOutOf\\w+|NullPointer\\w+|Arithmetic\\w+|ClassCast\\w+|NegativeArray\\w+"
                + "|ArrayStore\\w+|RuntimeException|Exception|Throwable|\\w*Error)\\b"));
    }

    /** Rule 11: methods of some sixty lines at most. They begin and end at the same indentation. */
    private static void theLengths(String text) {
        String[] lines = text.split("\n");
        for (int first = 0; first < lines.length; first++) {
            Matcher head = Pattern.compile("( {4}| {8})(?:public|private)[^=;{]*\\(.*")
                    .matcher(lines[first]);
            if (head.matches()) {
                int last = first;
                while (last < lines.length && !lines[last].equals(head.group(1) + "}")) {
                    last++;
                }
                boolean isShort = last < lines.length && last - first < 60;
                Check.due(true, "short: " + lines[first].trim(), () -> isShort);
            }
        }
    }

    /** Rules 1 and 11. */
    private static void theClassesInside(List<Class<?>> classes) {
        Check.due(true, "some twelve classes at most", () -> classes.size() < 12);
        for (Class<?> each : classes) {
            int modifiers = each.getModifiers();
            Check.due(true, each + " is static", () -> Modifier.isStatic(modifiers));
            Check.due(false, each + " is public", () -> Modifier.isPublic(modifiers));
            Check.due(false, each + " is protected", () -> Modifier.isProtected(modifiers));
            Check.due(false, each + " is an exception",
                    () -> Throwable.class.isAssignableFrom(each));
        }
    }

    /** Rules 5 and 11. */
    private static void theFields(Class<?> of) {
        Set<String> own = new TreeSet<>();
        for (Field field : of.getDeclaredFields()) {
            String type = field.getType().getSimpleName();
            if (!Modifier.isStatic(field.getModifiers())) {
                own.add(field.getName());
            } else {
                Check.due(true, field + " is final", () -> Modifier.isFinal(field.getModifiers()));
                Check.due(true, field + " is a constant", () -> STATIC_TYPES.contains(type));
            }
        }
        Check.due(true, of + " has some twenty fields at most", () -> own.size() <= 20);
    }

    /** Rules 1, 6 and 11. */
    private static void theMethods(Class<?> of) {
        Set<String> face = new TreeSet<>(Set.of("equals", "hashCode", "toString"));
        for (Method method : HousePlans.class.getDeclaredMethods()) {
            if (Modifier.isPublic(method.getModifiers())) {
                face.add(method.getName());
            }
        }
        for (Method method : of.getDeclaredMethods()) {
            Check.due(true, method + " has seven parameters at most",
                    () -> method.getParameterCount() <= 7);
            if (of != HousePlans.class || !Modifier.isPublic(method.getModifiers())) {
                Check.due(false, method + " bears a name of the face",
                        () -> face.contains(method.getName()));
            }
        }
        for (Constructor<?> made : of.getDeclaredConstructors()) {
            Check.due(true, made + " has seven parameters at most",
                    () -> made.getParameterCount() <= 7);
        }
    }
}
