import java.io.IOException;
import java.net.URL;
import java.net.URLClassLoader;
import java.nio.file.Files;
import java.nio.file.Path;
import java.util.concurrent.Callable;
import java.util.function.BiConsumer;
import java.util.regex.Matcher;
import java.util.regex.Pattern;
import javax.tools.ToolProvider;

/** Compiles the examples of README.md and compares their answers with its comments; run from the root. */
public final class ReadmeTest {
    private static final Pattern BLOCK = Pattern.compile("(?s)```java\n(.*?)```");
    private static final Pattern LINE =
        Pattern.compile("(int (\\w+) = )?(x\\.(\\w+)\\(.*\\)); *// ('.'|throws \\w+|-?\\w+)(:.*)?");
    private static final int CALLS_OF_THE_FACE = 27;

    private static final Checks CHECKS = new Checks("ReadmeTest");

    public static void main(String[] args) throws Exception {
        String page = Files.readString(Path.of("README.md"));
        StringBuilder body = new StringBuilder();
        Matcher block = BLOCK.matcher(page);
        while (block.find()) {
            for (String line : block.group(1).split("\n")) {
                body.append(statement(line)).append('\n');
            }
        }
        runExample(body.toString());
        CHECKS.about("calls that the examples use");
        long used = Pattern.compile("\\bx\\.(\\w+)\\(").matcher(body).results()
            .map(call -> call.group(1)).distinct().count();
        CHECKS.due(String.valueOf(CALLS_OF_THE_FACE), String.valueOf(used));
        CHECKS.end();
    }

    private static String statement(String line) {
        Matcher matcher = LINE.matcher(line);
        if (!matcher.matches()) {
            CHECKS.about("a line that tells no answer");
            CHECKS.due("Covenanter x = new Covenanter();", line);
            return line;
        }
        String want = "\"" + matcher.group(5) + "\"";
        String name = matcher.group(2);
        String call = matcher.group(3);
        return name == null
            ? "due.accept(" + want + ", () -> " + call + ");"
            : "int " + name + " = " + call + "; due.accept(" + want + ", () -> " + name + ");";
    }

    private static void runExample(String body) throws Exception {
        Path place = Files.createTempDirectory("readme");
        Path source = place.resolve("ReadmeExample.java");
        Files.writeString(source, "import java.util.concurrent.Callable;\nimport java.util.function.BiConsumer;\n"
            + "public final class ReadmeExample {\npublic static void run(BiConsumer<String, Callable<Object>> due) {\n"
            + body + "}\n}\n");
        int code = ToolProvider.getSystemJavaCompiler().run(null, null, null, "-classpath",
            System.getProperty("java.class.path"), "-d", place.toString(), source.toString());
        CHECKS.about("compiling the examples");
        CHECKS.due("0", String.valueOf(code));
        BiConsumer<String, Callable<Object>> due = ReadmeTest::due;
        if (code == 0) {
            try (URLClassLoader loader = new URLClassLoader(new URL[] {place.toUri().toURL()})) {
                loader.loadClass("ReadmeExample").getMethod("run", BiConsumer.class).invoke(null, due);
            }
        }
        remove(place);
    }

    private static void due(String told, Callable<Object> call) {
        CHECKS.about("README tells " + told);
        String got;
        try {
            got = String.valueOf(call.call());
        } catch (Exception thrown) {
            got = "throws " + thrown.getClass().getSimpleName();
        }
        CHECKS.due(meant(told), got);
    }

    // The value of a constant that is told by its name, the character within its signs, or the word itself.
    private static String meant(String told) {
        if (told.startsWith("'")) {
            return told.substring(1, 2);
        }
        try {
            return String.valueOf(Covenanter.class.getField(told).get(null));
        } catch (ReflectiveOperationException none) {
            return told;
        }
    }

    private static void remove(Path place) throws IOException {
        try (var files = Files.list(place)) {
            for (Path file : files.toList()) {
                Files.delete(file);
            }
        }
        Files.delete(place);
    }
}
