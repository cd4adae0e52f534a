import java.io.IOException;
import java.nio.file.Files;
import java.nio.file.Path;
import java.util.ArrayList;
import java.util.List;
import java.util.regex.Matcher;
import java.util.regex.Pattern;
import java.util.stream.Stream;

/**
 * Each sentence of the document's terms and promises is named by a test, in the document's own words, and no test
 * names words that the document does not have.
 */
public final class DocumentTest {
    private static final Path DOCUMENT = Path.of("../shared/DOC.md");
    private static final Path TESTS = Path.of("src/test/java");
    private static final Pattern NAMED = Pattern.compile("\\.sentence\\(((?:\"[^\"]*\"[\\s+]*)+)\\);");
    private static final Pattern LITERAL = Pattern.compile("\"([^\"]*)\"");

    public static void main(String[] args) throws IOException {
        Check check = new Check();
        if (!Files.isReadable(DOCUMENT)) {
            System.out.println("there is no document to compare with");
            return;
        }
        String document = Files.readString(DOCUMENT).replaceAll("\\s+", " ");
        boolean[] isNamed = new boolean[document.length()];
        for (String words : namedWords()) {
            check.due("found '" + words + "'", true, mark(document, words, isNamed));
        }
        int from = document.indexOf("## Terms");
        int to = document.indexOf("## Not promised");
        check.due("the document has its sections", true, from >= 0 && from < to);
        String left = unnamed(document, isNamed, from, to);
        check.due("words that no test names: '" + left + "'", 0, left.length());
        check.end();
    }

    private static List<String> namedWords() throws IOException {
        List<String> found = new ArrayList<>();
        List<Path> files;
        try (Stream<Path> all = Files.list(TESTS)) {
            files = all.filter(file -> file.toString().endsWith("Test.java")).toList();
        }
        for (Path file : files) {
            Matcher named = NAMED.matcher(Files.readString(file));
            while (named.find()) {
                StringBuilder words = new StringBuilder();
                Matcher literal = LITERAL.matcher(named.group(1));
                while (literal.find()) {
                    words.append(literal.group(1));
                }
                found.add(words.toString());
            }
        }
        return found;
    }

    private static boolean mark(String document, String words, boolean[] isNamed) {
        int at = document.indexOf(words);
        boolean found = at >= 0;
        while (at >= 0) {
            java.util.Arrays.fill(isNamed, at, at + words.length(), true);
            at = document.indexOf(words, at + 1);
        }
        return found;
    }

    /** What is left when headings, signatures, fences and joints between named words are taken away. */
    private static String unnamed(String document, boolean[] isNamed, int from, int to) {
        StringBuilder left = new StringBuilder();
        for (int i = from; i < to; i++) {
            left.append(isNamed[i] ? '\n' : document.charAt(i));
        }
        return left.toString()
                .replaceAll("## Terms", "")
                .replaceAll("## Promise \\d+: [A-Za-z ]+ `[^`]*`:", "")
                .replaceAll("```(text)?", "")
                .replaceAll("\\band\\b", "")
                .replaceAll("[\\s:;,.()]+", " ")
                .trim();
    }
}
