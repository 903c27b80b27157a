import java.io.IOException;
import java.nio.file.Files;
import java.nio.file.Path;
import java.util.regex.Matcher;
import java.util.regex.Pattern;

/** The class keeps to what of ../shared/LANGUAGE.md can be seen from its text. Run from the project's folder. */
final class LanguageTest {
    private static final Due due = new Due("LanguageTest");
    private static final String FACE = "sew|burn|cut|undoSeam|turn|exchange|join|scroll|patch|letter|reading|find|shared|compare"
        + "|count|ifCut|bestCut|put|wipe|fault|undo|save|restore";

    public static void main(String[] arguments) throws IOException {
        String source = Files.readString(Path.of("src/main/java/SeamReadings.java"));
        // Neither comments nor characters in quotes are code.
        String code = source.replaceAll("(?s)/\\*.*?\\*/", "").replaceAll("//[^\n]*", "").replaceAll("'[^']'", "' '");
        none(code, "rule 1", "\\b(package|protected|import)\\b");
        none(code, "rule 1", "\\b(private|void|int|boolean|Scroll|End|Shelf)[ \\[\\]a-z]* (?<!public int )(" + FACE + ")\\((?=[^)]*\\) \\{)");
        none(code, "rule 2", "->|::|\\binner\\b|(?<!static )(?<!static final )\\bclass\\b(?! SeamReadings)");
        none(code, "rule 3", "\\b(Object|Map|Set|HashMap|Long|var)\\b|\\bnew [a-z]+ *\\[[a-z]");
        none(code, "rule 4", "\\b(Arrays|Character|String\\.|stream|printf?|println)\\b|Exact\\b");
        none(code, "rule 5", "\\bstatic (?!final|int|boolean|void|long)|\\bstatic \\{");
        none(code, "rule 6", "\\b(throw|throws|try|catch|finally|synchronized|assert|equals|hashCode|toString|instanceof)\\b");
        none(code, "rule 9", "\\bwhile\\b|\\bdo \\{|for \\([^;]*; *;");
        none(code, "rule 13", "\\b(System\\.(?!arraycopy)|Thread|Random|File|currentTimeMillis|nanoTime)");
        lengths(code);
        due.end();
    }

    private static void none(String code, String rule, String forbidden) {
        Matcher found = Pattern.compile(forbidden).matcher(code);
        due.text(rule, found.find() ? found.group() : "", "");
    }

    /** Methods stay short, take few parameters, and the classes are few. */
    private static void lengths(String code) {
        int started = 0;
        int classes = 0;
        String[] lines = code.split("\n");
        for (int i = 0; i < lines.length; i++) {
            if (lines[i].matches(" {4,8}[a-zA-Z].*\\) \\{")) {
                started = i;
                due.is("rule 11: parameters of " + lines[i], lines[i].split(",").length <= 7 ? 1 : 0, 1);
            } else if (lines[i].matches(" {4,8}\\}")) {
                due.is("rule 11: lines of " + lines[started], i - started < 60 || lines[i].startsWith("    }") ? 1 : 0, 1);
            }
            classes += lines[i].matches(".*\\bclass\\b.*") ? 1 : 0;
        }
        due.is("rule 11: classes", classes <= 12 ? 1 : 0, 1);
    }
}
