import java.io.IOException;
import java.nio.file.Files;
import java.nio.file.Path;
import java.util.List;
import java.util.regex.Matcher;
import java.util.regex.Pattern;

/** The rules of LANGUAGE.md that can be seen in the text of the class. */
public final class LanguageTest {
    public static void main(String[] args) throws IOException {
        String text = Files.readString(Path.of("src/main/java/TithedThoughts.java"));
        String code = text.replaceAll("(?s)/\\*.*?\\*/", "").replaceAll("//[^\n]*", "");
        banned(code);
        imports(code);
        lengths(code);
        Check.due("signs beyond 127", text.chars().filter(c -> c > 127).count(), 0);
        Check.finish();
    }

    private static void banned(String code) {
        List<String> patterns = List.of("->", "::", "\\bcatch\\b", "\\btry\\b", "\\bfinally\\b", "\\bsynchronized\\b",
            "\\bassert\\b", "\\binstanceof\\b", "\\bpackage\\b", "\\bprotected\\b", "\\bvar\\b", "\\bdouble\\b",
            "\\bfloat\\b", "\\bnull\\b", "\\bObject\\b", "\\bstatic \\{", "\\[\\]\\[\\]", "Exact\\(", "\\.length\\(\\) \\+ \"",
            "\" \\+", "\\+ \"", "\\bgetMessage\\b", "\\btoString\\b", "\\bhashCode\\b", "\\bequals\\b", "System\\.(?!arraycopy)",
            "Arrays\\.(?!fill|copyOf)", "throw new (?!NoSuchElementException\\(\\))");
        for (String p : patterns) {
            Matcher m = Pattern.compile(p).matcher(code);
            Check.no("in the code: " + p, m.find());
        }
    }

    private static void imports(String code) {
        Matcher m = Pattern.compile("import ([^;]*);").matcher(code);
        while (m.find()) {
            Check.yes("import " + m.group(1), List.of("java.util.Arrays", "java.util.NoSuchElementException")
                .contains(m.group(1)));
        }
    }

    /** Methods of some sixty lines, seven parameters, twelve classes. */
    private static void lengths(String code) {
        Matcher m = Pattern.compile("(?m)^( ++)(?!if|for|while|switch|else|return|\\})[\\w\\[\\] ]+\\(([^)]*)\\)[^;{]*\\{$")
            .matcher(code);
        int methods = 0;
        while (m.find()) {
            methods++;
            int end = code.indexOf("\n" + m.group(1) + "}", m.start());
            long lines = code.substring(m.start(), end).lines().count();
            Check.yes("lines of " + m.group().trim(), lines <= 60);
            Check.yes("parameters of " + m.group().trim(), m.group(2).split(",").length <= 7);
        }
        Check.yes("methods are seen: " + methods, methods > 60);
        Matcher classes = Pattern.compile("\\b(class|enum|interface|record) \\w+").matcher(code);
        int many = 0;
        while (classes.find()) {
            many++;
        }
        Check.yes("classes: " + many, many <= 12);
    }
}
