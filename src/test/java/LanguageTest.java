import java.io.IOException;
import java.nio.file.Files;
import java.nio.file.Path;
import java.util.regex.Matcher;
import java.util.regex.Pattern;

/** What of LANGUAGE.md a look at the source's words can tell; run from the project's root. */
public final class LanguageTest {
    private static final String[] NEVER = {
        "(?m)^package\\b", "->", "::", "\\btry\\b", "\\bcatch\\b", "\\bfinally\\b", "\\bsynchronized\\b",
        "\\bassert\\b", "\\bnative\\b", "\\bvolatile\\b", "\\bthrow\\s+(?!new\\b)", "\\w+Exact\\b",
        "\\bstatic\\s*\\{", "\\bSystem\\.(?!arraycopy\\b)", "\\bThread\\b", "\\bMath\\.random\\b",
        "\\bObject\\b", "\\bhashCode\\b", "\\bequals\\b", "\\bvar\\b", "\\bprotected\\b",
        "\"\\s*\\+", "\\+\\s*\"", "[^\\x00-\\x7f]",
        "\\bimport\\s+(?!java\\.util\\.(ArrayList|Arrays|List|Iterator|NoSuchElementException);)",
        "\\bstatic\\s+(?!final\\b)[\\w<>\\[\\]]+\\s+\\w+\\s*(=|;)"
    };
    private static final int MOST_LINES_OF_A_METHOD = 60;
    private static final int MOST_CLASSES = 12;

    public static void main(String[] args) throws IOException {
        String source = Files.readString(Path.of("src/main/java/Covenanter.java"));
        String code = source.replaceAll("(?s)/\\*.*?\\*/", "").replaceAll("//[^\n]*", "")
            .replaceAll("\"(\\\\.|[^\"\\\\])*\"", "\"\"");
        Checks checks = new Checks("LanguageTest");
        for (String pattern : NEVER) {
            Matcher matcher = Pattern.compile(pattern).matcher(code);
            checks.about(pattern);
            checks.due("nothing", matcher.find() ? matcher.group() : "nothing");
        }
        checks.about("lines of the longest method, at most " + MOST_LINES_OF_A_METHOD);
        checks.due("true", String.valueOf(longestMethod(code) <= MOST_LINES_OF_A_METHOD));
        checks.about("classes, at most " + MOST_CLASSES);
        long classes = Pattern.compile("\\b(class|record|enum|interface)\\s+\\w+").matcher(code).results().count();
        checks.due("true", String.valueOf(classes <= MOST_CLASSES));
        checks.end();
    }

    // A method begins on an indented line with a bracket and ends on the line of its indent's brace.
    private static int longestMethod(String code) {
        int longest = 0;
        int start = -1;
        String[] lines = code.split("\n");
        for (int line = 0; line < lines.length; line++) {
            if (lines[line].matches(" {4}( {4})?(public|private) .*\\(.*")) {
                start = line;
            } else if (lines[line].matches(" {4}( {4})?}") && start >= 0) {
                longest = Math.max(longest, line - start + 1);
            }
        }
        return longest;
    }
}
