import java.io.IOException;
import java.lang.reflect.Method;
import java.nio.file.Files;
import java.nio.file.Path;
import java.util.LinkedHashSet;
import java.util.Set;

/** No sentence of the document is without a test of its own, and no such test quotes what the document does not say. */
final class SentencesTest {
    private static final Class<?>[] TESTS = {
        EdgesOfTermsTest.class, EdgesOfChangesTest.class, EdgesOfAskingTest.class, EdgesOfTextsAndStatesTest.class};
    private static final Due due = new Due("SentencesTest");

    public static void main(String[] arguments) throws IOException {
        Set<String> said = sentences(Path.of("../shared/DOC.md"));
        Set<String> quoted = quotes();
        for (String sentence : said) {
            due.is("sentences with a test: " + sentence, quoted.contains(sentence) ? 1 : 0, 1);
        }
        for (String quote : quoted) {
            due.is("quotes that the document says: " + quote, said.contains(quote) ? 1 : 0, 1);
        }
        due.end();
    }

    private static Set<String> quotes() {
        Set<String> quotes = new LinkedHashSet<>();
        for (Class<?> tests : TESTS) {
            for (Method test : Edges.testsOf(tests)) {
                Edge edge = test.getAnnotation(Edge.class);
                quotes.add(edge.promise() + ": " + edge.says());
            }
        }
        return quotes;
    }

    /** The sentences of the terms and of the promises, each with its promise's number. */
    private static Set<String> sentences(Path document) throws IOException {
        Set<String> sentences = new LinkedHashSet<>();
        int promise = -1;
        for (String line : Files.readAllLines(document)) {
            if (line.startsWith("## ")) {
                promise = promiseOf(line);
            } else if (line.startsWith("An object is used")) {
                // It stands ahead of the terms, and binds all promises as they do.
                sentences.add("0: " + line.substring(0, line.indexOf(';')));
            } else if (promise >= 0 && !line.isEmpty() && !line.startsWith("#")) {
                for (String part : parts(line)) {
                    sentences.add(promise + ": " + part);
                }
            }
        }
        return sentences;
    }

    private static int promiseOf(String heading) {
        if (heading.equals("## Terms")) {
            return 0;
        }
        return heading.matches("## Promise \\d+: .*") ? Integer.parseInt(heading.substring(11, heading.indexOf(':'))) : -1;
    }

    /** What a line says, one by one; whole where it is of the interface, and without the names of what it is about. */
    private static String[] parts(String line) {
        if (line.startsWith("Ahead of the calls ")) {
            return new String[] {line};
        }
        String text = line.replaceFirst("^CONVENTIONS\\. ", "").replaceFirst("^(- )?`[^`]*`: ", "");
        String[] parts = text.split(line.startsWith("- `what`: ") ? ", (?=\\d )" : "(?<=[.;]) ");
        for (int i = 0; i < parts.length; i++) {
            parts[i] = parts[i].replaceFirst("[.;]$", "");
        }
        return parts;
    }
}
