import java.io.IOException;
import java.nio.file.Files;
import java.nio.file.Path;
import java.util.regex.Matcher;
import java.util.regex.Pattern;

/** What of LANGUAGE.md can be seen in the source's words alone; the rest is for the reader. */
public final class LanguageTest {
    private static final Path SOURCE = Path.of("src/main/java/WeatherMast.java");
    private static final String[] FORBIDDEN = {
        "\\b(float|double|Float|Double|strictfp|synchronized|assert|try|catch|finally|package|var|volatile)\\b",
        "->", "::", "\\bstatic\\s*\\{", "\\w+Exact\\b", "@\\w+", "[^\\x00-\\x7f]",
        "\\b(System|Objects|Arrays|Random|Thread|Class)\\b",
        "\\bMath\\.(?!max\\b|min\\b)", "\\b(equals|hashCode|toString|getMessage)\\b",
    };

    public static void main(String[] args) throws IOException {
        Check check = new Check();
        String source = Files.readString(SOURCE);
        String code = source.replaceAll("(?s)/\\*.*?\\*/", "").replaceAll("//[^\\n]*", "")
                .replaceAll("\"[^\"\\n]*\"", "\"\"");
        for (String words : FORBIDDEN) {
            Matcher found = Pattern.compile(words).matcher(code);
            check.due("found '" + (found.find() ? found.group() : "") + "'", false, found.reset().find());
        }
        Matcher imports = Pattern.compile("(?m)^import (.*);").matcher(code);
        while (imports.find()) {
            check.due("import " + imports.group(1), true, imports.group(1).equals("java.util.NoSuchElementException"));
        }
        Matcher statics = Pattern.compile("\\bstatic (?!final\\b)[\\w\\[\\]]+ \\w+ *[=;]").matcher(code);
        check.due("a static field that is not final", false, statics.find());
        check.end();
    }
}
