import java.io.IOException;
import java.nio.charset.StandardCharsets;
import java.nio.file.Files;
import java.nio.file.Path;
import java.util.List;
import java.util.Set;
import java.util.TreeSet;
import java.util.regex.Matcher;
import java.util.regex.Pattern;

/** The rules of ../shared/LANGUAGE.md that the source shows; it is read from the project's folder. */
public final class SourceTest {
    private static final Path SOURCE = Path.of("src", "main", "java", "FloodWardens.java");
    private static final Set<String> OWN_CLASSES = new TreeSet<>(Set.of("FloodWardens"));
    /** What the class needs of all that rule 4 allows. */
    private static final Set<String> LIBRARY = Set.of("Math.min", "Math.floorMod", "System.arraycopy");
    /** What rule 6 names. */
    private static final Set<String> EXCEPTIONS = Set.of("IllegalStateException", "IllegalArgumentException",
            "IndexOutOfBoundsException", "ArithmeticException", "UnsupportedOperationException",
            "NoSuchElementException", "RuntimeException");

    public static void main(String[] args) throws IOException {
        String text = Files.readString(SOURCE, StandardCharsets.ISO_8859_1);
        signs(text);
        String code = withoutComments(text);
        Matcher classes = Pattern.compile("\\bclass (\\w+)").matcher(code);
        while (classes.find()) {
            OWN_CLASSES.add(classes.group(1));
        }
        words(code);
        library(code);
        exceptions(code);
        loops(code);
        methods(code);
        Due.end();
    }

    private static void signs(String text) {
        Due.holds("all signs are 32 to 126, or an end of line", text.chars().allMatch(c -> c == '\n' || c >= 32 && c < 127));
    }

    private static String withoutComments(String text) {
        return text.replaceAll("(?s)/\\*.*?\\*/", "").replaceAll("//.*", "");
    }

    private static void words(String code) {
        for (String word : List.of("import", "package", "try", "catch", "finally", "synchronized", "assert", "volatile",
                "native", "var", "Object", "Throwable", "Exception", "equals", "hashCode", "toString")) {
            Due.holds("there is no " + word, !Pattern.compile("\\b" + word + "\\b").matcher(code).find());
        }
        Due.holds("there is no function without a name", !code.contains("->") && !code.contains("::"));
        Due.holds("there is no static block", !Pattern.compile("\\bstatic\\s*\\{").matcher(code).find());
        Due.holds("there is no double but share()", code.split("\\bdouble\\b").length == 3);
    }

    private static void library(String code) {
        Matcher used = Pattern.compile("\\b([A-Z]\\w*[a-z]\\w*)\\.(\\w+)").matcher(code);
        while (used.find()) {
            Due.holds(used.group() + " is of rule 4 or of the class itself",
                    OWN_CLASSES.contains(used.group(1)) || LIBRARY.contains(used.group()));
        }
        Matcher made = Pattern.compile("\\bnew (\\w+)(.)").matcher(code);
        while (made.find()) {
            boolean row = (made.group(1).equals("int") || made.group(1).equals("boolean")) && made.group(2).equals("[");
            Due.holds(made.group() + " is of rule 4 or of the class itself", row
                    || OWN_CLASSES.contains(made.group(1)) || EXCEPTIONS.contains(made.group(1)));
        }
    }

    private static void exceptions(String code) {
        int thrown = code.split("\\bthrow\\b", -1).length - 1;
        Matcher written = Pattern.compile("throw new (\\w+)\\(\"[^\"]*\"\\);").matcher(code);
        int fine = 0;
        while (written.find()) {
            fine += EXCEPTIONS.contains(written.group(1)) ? 1 : 0;
        }
        Due.same("exceptions that are thrown as rule 6 says", fine, thrown);
        Due.same("texts, all of them in exceptions", code.split("\"", -1).length - 1, 2 * thrown);
    }

    /** Rule 9: a counter that goes up against a bound. */
    private static void loops(String code) {
        Due.holds("there is no while", !Pattern.compile("\\b(while|do)\\b").matcher(code).find());
        int all = code.split("\\bfor \\(", -1).length - 1;
        Matcher counted = Pattern.compile("for \\(int (\\w+) = \\w+; \\1 < [^;]+; \\1\\+\\+\\) \\{").matcher(code);
        int fine = 0;
        while (counted.find()) {
            fine++;
        }
        Due.same("loops that count against a bound", fine, all);
    }

    /** Rule 11: some sixty lines, and seven parameters at most. */
    private static void methods(String code) {
        Matcher heads = Pattern.compile("(?m)^( {4}| {8})(?! )[\\w\\[\\] ]+\\(([^)]*)\\)[\\w,\\s]*\\{$").matcher(code);
        int methods = 0;
        while (heads.find()) {
            int end = code.indexOf("\n" + heads.group(1) + "}", heads.end());
            long lines = code.substring(heads.start(), Math.max(end, heads.start())).lines().count() + 1;
            Due.holds(heads.group().strip() + " ends, and is short", end > 0 && lines <= 60);
            Due.holds(heads.group().strip() + " takes few parameters", heads.group(2).split(",").length <= 7);
            methods++;
        }
        Due.holds("the methods are found: " + methods, methods > 80);
    }
}
