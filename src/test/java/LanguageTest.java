import java.io.IOException;
import java.nio.file.Files;
import java.nio.file.Path;
import java.util.regex.Matcher;
import java.util.regex.Pattern;

/** The class keeps to what of ../shared/LANGUAGE.md can be seen from its text. Run from the project's folder. */
final class LanguageTest {
    private static final Due due = new Due("LanguageTest");
    private static final String FACE = "sew|burn|cut|undoSeam|turn|exchange|join|scroll|patch|letter|reading|find|shared|compare"
        + "|count|ifCut|bestCut|put|wipe|fault|undo|save|restore";
    // In the class itself a method's head stands four places from the left, in a class inside it eight.
    private static final Pattern METHOD =
        Pattern.compile("( {4}| {8})(?!if\\b|for\\b|switch\\b|while\\b)[a-zA-Z][^;=]*\\) \\{");

    public static void main(String[] arguments) throws IOException {
        String source = Files.readString(Path.of("src/main/java/SeamReadings.java"));
        // Neither comments nor characters in quotes are code.
        String code = source.replaceAll("(?s)/\\*.*?\\*/", "").replaceAll("//[^\n]*", "").replaceAll("'[^']'", "' '");
        none(code, "rule 1", "\\b(package|protected|import)\\b");
        none(code, "rule 1", "\\b(private|void|int|boolean|Scroll|End|Shelf)[ \\[\\]a-z]* (?<!public int )(" + FACE + ")\\((?=[^)]*\\) \\{)");
        none(code, "rule 2", "->|::|\\binner\\b|(?<!static )(?<!static final )\\bclass\\b(?! SeamReadings)");
        none(code, "rule 3", "\\b(Object|Map|Set|HashMap|Long|var)\\b|\\bnew [a-z]+ *\\[[a-z]");
        none(code, "rule 4", "\\b(Arrays|Character|String\\.|stream|printf?|println)\\b|Exact\\b");
        none(code, "rule 5", "\\bstatic (?!final|int|boolean|void|long)|\\bstatic \\{");
        none(code, "rule 6", "\\b(throw|throws|try|catch|finally|synchronized|assert|equals|hashCode|toString|instanceof)\\b");
        none(code, "rule 9", "\\bwhile\\b|\\bdo \\{|for \\([^;]*; *;");
        none(code, "rule 13", "\\b(System\\.(?!arraycopy)|Thread|Random|File|currentTimeMillis|nanoTime)");
        lengths(code);
        due.end();
    }

    private static void none(String code, String rule, String forbidden) {
        Matcher found = Pattern.compile(forbidden).matcher(code);
        due.text(rule, found.find() ? found.group() : "", "");
    }

    /** Methods stay short, take few parameters, and the classes are few. */
    private static void lengths(String code) {
        String[] lines = code.split("\n");
        int methods = 0;
        int classes = 0;
        for (int i = 0; i < lines.length; i++) {
            Matcher head = METHOD.matcher(lines[i]);
            if (head.matches()) {
                methods++;
                due.is("rule 11: parameters of " + lines[i], lines[i].split(",").length <= 7 ? 1 : 0, 1);
                due.is("rule 11: lines of " + lines[i], endOf(lines, i, head.group(1) + "}") - i < 60 ? 1 : 0, 1);
            }
            classes += lines[i].matches(".*\\bclass\\b.*") ? 1 : 0;
        }
        due.is("rule 11: methods are found", methods > 23 ? 1 : 0, 1);
        due.is("rule 11: classes", classes <= 12 ? 1 : 0, 1);
    }

    /** A method ends at the next brace that stands as far to the left as its head. */
    private static int endOf(String[] lines, int from, String brace) {
        int at = from;
        while (at < lines.length && !lines[at].equals(brace)) {
            at++;
        }
        return at;
    }
}
