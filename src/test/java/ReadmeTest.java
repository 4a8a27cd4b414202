import java.io.File;
import java.io.IOException;
import java.lang.reflect.Method;
import java.lang.reflect.Modifier;
import java.net.URL;
import java.net.URLClassLoader;
import java.nio.file.Files;
import java.nio.file.Path;
import java.util.ArrayList;
import java.util.List;
import java.util.regex.Matcher;
import java.util.regex.Pattern;
import javax.tools.JavaCompiler;
import javax.tools.ToolProvider;

/** What README.md shows is so: its examples are compiled and run, its faults are told, its calls are the class's. */
public final class ReadmeTest {
    private static final Pattern BLOCK = Pattern.compile("(?s)```java\n(.*?)```");
    private static final Pattern ANSWERED = Pattern.compile(
        "t\\.(\\w+)\\((.*)\\); +// (-?\\d+|true|false|throws NoSuchElementException)(:.*)?");
    private static final Pattern FAULT_ROW = Pattern.compile(
        "(?m)^\\| `(abbey|years)` \\| `([^`]*)` \\| (\\d+) \\| (\\d) at (\\d+): .*\\|$");
    private static final Pattern CALL_ROW = Pattern.compile("(?m)^\\| `(\\w+\\([^)]*\\))` \\|.*\\|$");
    private static final Pattern FACE = Pattern.compile("(?m)^    public (?:int|boolean) (\\w+)\\(([^)]*)\\)");

    private ReadmeTest() {
    }

    public static void main(String[] args) throws Exception {
        String readme = Files.readString(Path.of("README.md"));
        faults(readme);
        calls(readme);
        examples(readme);
        Check.finish();
    }

    private static void faults(String readme) {
        Matcher row = FAULT_ROW.matcher(readme);
        int kinds = 0;
        while (row.find()) {
            TithedThoughts t = new TithedThoughts();
            Check.feed(t, row.group(2));
            int answer = row.group(1).equals("abbey") ? t.abbey() : t.years();
            Check.due(row.group(1) + " of " + row.group(2), answer, Integer.parseInt(row.group(3)));
            int kind = Integer.parseInt(row.group(4));
            Check.due("said of " + row.group(2), kind + 16 * Integer.parseInt(row.group(5)), answer);
            kinds |= 1 << kind;
        }
        Check.due("kinds of faults that are shown, as bits", kinds, 62);
    }

    /** The table has the calls of the face, with the names of their parameters, in its order. */
    private static void calls(String readme) throws IOException {
        List<String> shown = new ArrayList<>();
        Matcher row = CALL_ROW.matcher(readme);
        while (row.find()) {
            shown.add(row.group(1));
        }
        List<String> due = new ArrayList<>();
        Matcher face = FACE.matcher(Files.readString(Path.of("../shared/DOC.md")));
        while (face.find()) {
            due.add(face.group(1) + "(" + face.group(2).replaceAll("(int|long|boolean) ", "") + ")");
        }
        Check.yes("calls in the table: " + shown + ", due are " + due, shown.equals(due));
        Check.due("calls of the face", due.size(), 32);
    }

    private static void examples(String readme) throws Exception {
        StringBuilder helpers = new StringBuilder();
        StringBuilder body = new StringBuilder();
        Matcher block = BLOCK.matcher(readme);
        while (block.find()) {
            boolean isHelper = block.group(1).startsWith("static ");
            (isHelper ? helpers : body).append(isHelper ? block.group(1) : asked(block.group(1)));
        }
        everyCallIsShown(body.toString());
        compileAndRun("public final class Shown {\n" + helpers + "public static void show() {\n" + body
            + "Check.finish();\n}\n}\n");
    }

    /** Each call with an answer behind it is asked for that answer; all else stays as it is. */
    private static String asked(String block) {
        StringBuilder code = new StringBuilder();
        for (String line : block.split("\n")) {
            Matcher m = ANSWERED.matcher(line);
            if (!m.matches()) {
                Check.no("a line that no answer is read of: " + line, line.startsWith("t."));
                code.append(line).append('\n');
                continue;
            }
            String call = "t." + m.group(1) + "(" + m.group(2) + ")";
            String answer = m.group(3);
            if (answer.startsWith("throws")) {
                code.append("Check.none(\"").append(call).append("\", () -> ").append(call).append(");\n");
            } else if (answer.equals("true") || answer.equals("false")) {
                code.append("Check.").append(answer.equals("true") ? "yes" : "no");
                code.append("(\"").append(call).append("\", ").append(call).append(");\n");
            } else {
                code.append("Check.due(\"").append(call).append("\", ").append(call);
                code.append(", ").append(answer).append(");\n");
            }
        }
        return code.toString();
    }

    private static void everyCallIsShown(String code) {
        for (Method method : TithedThoughts.class.getDeclaredMethods()) {
            boolean isTold = method.getName().equals("feed");
            if (Modifier.isPublic(method.getModifiers()) && !isTold) {
                Check.yes("an example of " + method.getName(), code.contains("t." + method.getName() + "("));
            }
        }
    }

    private static void compileAndRun(String source) throws Exception {
        Path room = Files.createTempDirectory("readme");
        Path file = room.resolve("Shown.java");
        Files.writeString(file, source);
        JavaCompiler compiler = ToolProvider.getSystemJavaCompiler();
        int failed = compiler.run(null, null, null, "-cp", System.getProperty("java.class.path"),
            "-d", room.toString(), file.toString());
        Check.due("compiling what README.md shows", failed, 0);
        if (failed == 0) {
            // All is loaded once more beside it, since Check is seen by classes of one loader alone.
            URL[] where = places(room);
            try (URLClassLoader loader = new URLClassLoader(where, ClassLoader.getPlatformClassLoader())) {
                loader.loadClass("Shown").getMethod("show").invoke(null);
            }
        }
        for (String name : new String[] {"Shown.java", "Shown.class"}) {
            Files.deleteIfExists(room.resolve(name));
        }
        Files.deleteIfExists(room);
    }

    private static URL[] places(Path room) throws IOException {
        List<URL> urls = new ArrayList<>();
        urls.add(room.toUri().toURL());
        for (String place : System.getProperty("java.class.path").split(File.pathSeparator)) {
            urls.add(Path.of(place).toUri().toURL());
        }
        return urls.toArray(new URL[0]);
    }
}
