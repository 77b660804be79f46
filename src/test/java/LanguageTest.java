import java.io.IOException;
import java.lang.reflect.Constructor;
import java.lang.reflect.Field;
import java.lang.reflect.Method;
import java.lang.reflect.Modifier;
import java.nio.file.Files;
import java.nio.file.Path;
import java.util.ArrayList;
import java.util.List;
import java.util.Set;
import java.util.TreeSet;
import java.util.regex.Matcher;
import java.util.regex.Pattern;

/** What of LANGUAGE.md a look at the source's words and at the classes can tell; run from the root. */
public final class LanguageTest {
    private static final String[] NEVER = {
        "(?m)^package\\b", "->", "::", "\\btry\\b", "\\bcatch\\b", "\\bfinally\\b", "\\bsynchronized\\b",
        "\\bassert\\b", "\\bnative\\b", "\\bvolatile\\b", "\\bthrow\\s+(?!new\\b)", "\\w+Exact\\b",
        "\\bstatic\\s*\\{", "\\bSystem\\.(?!arraycopy\\b)", "\\bThread\\b", "\\bMath\\.random\\b",
        "\\bObject\\b", "\\bhashCode\\b", "\\bequals\\b", "\\bvar\\b", "\\bprotected\\b",
        "\"\\s*\\+", "\\+\\s*\"", "[^\\x00-\\x7f]",
        "\\bimport\\s+(?!java\\.util\\.(ArrayList|Arrays|List|Iterator|NoSuchElementException);)",
        "\\bstatic\\s+(?!final\\b)[\\w<>\\[\\]]+\\s+\\w+\\s*(=|;)"
    };
    // The library's methods that rule 4 lists, and what rules 4 and 6 let the class make of the library.
    private static final Set<String> LIBRARY = Set.of(
        "length", "charAt", "isEmpty", "equals", "indexOf", "substring", "toCharArray", "append", "setCharAt",
        "setLength", "deleteCharAt", "reverse", "toString", "add", "get", "set", "remove", "size", "clear", "of",
        "compare", "max", "min", "abs", "bitCount", "floorDiv", "floorMod", "arraycopy", "copyOf", "copyOfRange",
        "fill", "clone");
    private static final Set<String> MADE = Set.of(
        "String", "StringBuilder", "ArrayList", "IllegalStateException", "IllegalArgumentException",
        "IndexOutOfBoundsException", "ArithmeticException", "UnsupportedOperationException",
        "NoSuchElementException", "RuntimeException");
    private static final int MOST_LINES_OF_A_METHOD = 60;
    private static final int MOST_CLASSES = 12;
    private static final int MOST_FIELDS = 20;
    private static final int MOST_PARAMETERS = 7;

    public static void main(String[] args) throws IOException {
        String source = Files.readString(Path.of("src/main/java/Covenanter.java"));
        String code = source.replaceAll("(?s)/\\*.*?\\*/", "").replaceAll("//[^\n]*", "")
            .replaceAll("\"(\\\\.|[^\"\\\\])*\"", "\"\"");
        Checks checks = new Checks("LanguageTest");
        for (String pattern : NEVER) {
            Matcher matcher = Pattern.compile(pattern).matcher(code);
            checks.about(pattern);
            checks.due("nothing", matcher.find() ? matcher.group() : "nothing");
        }
        checks.about("lines of the longest method, at most " + MOST_LINES_OF_A_METHOD);
        checks.due("true", String.valueOf(longestMethod(code) <= MOST_LINES_OF_A_METHOD));
        checks.about("classes, at most " + MOST_CLASSES);
        long classes = Pattern.compile("\\b(class|record|enum|interface)\\s+\\w+").matcher(code).results().count();
        checks.due("true", String.valueOf(classes <= MOST_CLASSES));
        checks.about("calls of the library beside those of rule 4");
        checks.due("[]", beside(LIBRARY, names(code, "\\.(\\w+)\\("),
            names(code, "(?m)^ +(?:public|private) [^=;({]*?(\\w+)\\(")));
        checks.about("objects of the library beside those of rules 4 and 6");
        checks.due("[]", beside(MADE, names(code, "\\bnew (\\w+)[<(]"), names(code, "\\bclass (\\w+)")));
        dueClasses(checks);
        checks.end();
    }

    private static TreeSet<String> names(String code, String pattern) {
        TreeSet<String> found = new TreeSet<>();
        Matcher matcher = Pattern.compile(pattern).matcher(code);
        while (matcher.find()) {
            found.add(matcher.group(1));
        }
        return found;
    }

    private static String beside(Set<String> allowed, TreeSet<String> used, TreeSet<String> own) {
        used.removeAll(allowed);
        used.removeAll(own);
        return used.toString();
    }

    // Rules 1, 3, 5 and 11: fields, parameters, and what is seen of the classes inside.
    private static void dueClasses(Checks checks) {
        List<Class<?>> all = new ArrayList<>(List.of(Covenanter.class.getDeclaredClasses()));
        all.add(Covenanter.class);
        for (Class<?> each : all) {
            int fields = 0;
            for (Field field : each.getDeclaredFields()) {
                checks.about("the field " + each.getSimpleName() + "." + field.getName());
                boolean isConstant = Modifier.isStatic(field.getModifiers());
                fields += isConstant ? 0 : 1;
                checks.due("true", String.valueOf(isConstant ? isConstant(field) : isOfRule3(field.getType(), all)));
            }
            checks.about("fields of " + each.getSimpleName() + ", at most " + MOST_FIELDS);
            checks.due("true", String.valueOf(fields <= MOST_FIELDS));
            for (Method method : each.getDeclaredMethods()) {
                checks.about("parameters of " + method.getName() + ", at most " + MOST_PARAMETERS);
                checks.due("true", String.valueOf(method.getParameterCount() <= MOST_PARAMETERS));
            }
            for (Constructor<?> constructor : each.getDeclaredConstructors()) {
                checks.about("parameters of " + each.getSimpleName() + ", at most " + MOST_PARAMETERS);
                checks.due("true", String.valueOf(constructor.getParameterCount() <= MOST_PARAMETERS));
            }
        }
    }

    private static boolean isConstant(Field field) {
        Class<?> type = field.getType();
        return Modifier.isFinal(field.getModifiers()) && (type == int.class || type == long.class
            || type == boolean.class || type == char.class || type == String.class);
    }

    private static boolean isOfRule3(Class<?> type, List<Class<?>> own) {
        Class<?> part = type.isArray() ? type.getComponentType() : type;
        boolean isRowOfRows = part.isArray() && part.getComponentType().isPrimitive();
        return isRowOfRows || part.isPrimitive() || own.contains(part) || type == String.class
            || type == StringBuilder.class || type == ArrayList.class || type == List.class;
    }

    // A method begins on an indented line with a bracket and ends on the line of its indent's brace.
    private static int longestMethod(String code) {
        int longest = 0;
        int start = -1;
        String[] lines = code.split("\n");
        for (int line = 0; line < lines.length; line++) {
            if (lines[line].matches(" {4}( {4})?(public|private) .*\\(.*")) {
                start = line;
            } else if (lines[line].matches(" {4}( {4})?}") && start >= 0) {
                longest = Math.max(longest, line - start + 1);
            }
        }
        return longest;
    }
}
