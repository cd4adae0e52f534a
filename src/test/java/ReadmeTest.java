import java.io.IOException;
import java.net.URL;
import java.net.URLClassLoader;
import java.nio.file.Files;
import java.nio.file.Path;
import java.util.ArrayList;
import java.util.List;
import java.util.Map;
import java.util.TreeSet;
import java.util.regex.Matcher;
import java.util.regex.Pattern;
import java.util.stream.Stream;
import javax.tools.ToolProvider;

/**
 * README.md tells each call in the document's words, its example answers what it says, and its command is the one
 * that runs the tests.
 */
public final class ReadmeTest {
    private static final Check CHECK = new Check();
    private static final Path README = Path.of("README.md");
    private static final Path DOCUMENT = Path.of("../shared/DOC.md");
    private static final Path TESTS = Path.of("src/test/java");
    private static final Pattern EXAMPLE = Pattern.compile("(?s)```java\\n(.*?)```");
    private static final Pattern ANSWERED = Pattern.compile("\\w+ (\\w+) = .*; +// (\\S+)");
    private static final Pattern COMMAND = Pattern.compile("## Tests\\n\\n {4}(\\S+)\\n");
    private static final Pattern PROMISE = Pattern.compile("## Promise \\d+: [^`]+(`[^`]+`: .*?) (?=## )");
    private static final Pattern TEST_NAME = Pattern.compile("\\b\\w+Test\\b");

    public static void main(String[] args) throws Exception {
        String readme = Files.readString(README);
        checkExample(readme);
        checkCommand(readme);
        checkTestNames(readme);
        if (Files.isReadable(DOCUMENT)) {
            checkWords(joined(readme), joined(Files.readString(DOCUMENT)));
        } else {
            System.out.println("there is no document to compare with");
        }
        CHECK.end();
    }

    private static void checkExample(String readme) throws Exception {
        Matcher example = EXAMPLE.matcher(readme);
        CHECK.due("there is an example", true, example.find());
        String code = example.group(1);
        Map<?, ?> answers = answersOf(code);
        Matcher answered = ANSWERED.matcher(code);
        while (answered.find()) {
            Object got = answers.get(answered.group(1));
            CHECK.due(answered.group() + " is " + got, true, answered.group(2).equals(got));
        }
        for (java.lang.reflect.Method method : WeatherMast.class.getMethods()) {
            if (method.getDeclaringClass() == WeatherMast.class) {
                String call = "mast." + method.getName() + "(";
                CHECK.due("the example has " + call, true, code.contains(call));
            }
        }
    }

    /** Compiles the example as it stands, with a line behind each answer that keeps it, and runs it. */
    private static Map<?, ?> answersOf(String code) throws Exception {
        String kept = ANSWERED.matcher(code).replaceAll("$0\nanswers.put(\"$1\", String.valueOf($1));");
        Path out = Files.createTempDirectory("readme");
        Path source = out.resolve("Example.java");
        Path compiled = out.resolve("Example.class");
        try {
            Files.writeString(source, "public final class Example {\n"
                    + "public static java.util.Map<String, String> answers() {\n"
                    + "java.util.Map<String, String> answers = new java.util.HashMap<>();\n"
                    + kept + "return answers;\n}\n}\n");
            int exit = ToolProvider.getSystemJavaCompiler().run(null, null, null,
                    "-cp", System.getProperty("java.class.path"), "-d", out.toString(), source.toString());
            CHECK.due("the example compiles", 0, exit);
            try (URLClassLoader loader = new URLClassLoader(new URL[] {out.toUri().toURL()})) {
                return (Map<?, ?>) loader.loadClass("Example").getMethod("answers").invoke(null);
            }
        } finally {
            Files.deleteIfExists(source);
            Files.deleteIfExists(compiled);
            Files.deleteIfExists(out);
        }
    }

    /** The script tells its own name, so a command that is another one's is found. */
    private static void checkCommand(String readme) {
        Matcher command = COMMAND.matcher(readme);
        CHECK.due("there is a command", true, command.find());
        String named = command.group(1);
        String running = System.getProperty("tests.command", "no script");
        CHECK.due("the command " + named + " is the running one, " + running, true, named.equals(running));
        CHECK.due(named + " can be run", true, Files.isExecutable(Path.of(named)));
    }

    private static void checkTestNames(String readme) throws IOException {
        TreeSet<String> named = new TreeSet<>();
        Matcher name = TEST_NAME.matcher(readme);
        while (name.find()) {
            named.add(name.group());
        }
        TreeSet<String> there = new TreeSet<>();
        try (Stream<Path> all = Files.list(TESTS)) {
            all.map(file -> file.getFileName().toString()).filter(file -> file.endsWith("Test.java"))
                    .forEach(file -> there.add(file.substring(0, file.length() - ".java".length())));
        }
        CHECK.due("tests named " + named + " are those there " + there, true, there.equals(named));
    }

    private static void checkWords(String readme, String document) {
        int terms = document.indexOf("## Terms ");
        int promises = document.indexOf("## Promise 1: ");
        CHECK.due("the document has its sections", true, terms >= 0 && terms < promises);
        String told = document.substring(terms, promises).trim();
        CHECK.due("the readme has the terms", true, readme.contains(told));
        List<String> calls = new ArrayList<>();
        Matcher promise = PROMISE.matcher(document);
        while (promise.find()) {
            calls.add(promise.group(1));
        }
        CHECK.due("the document's promises", 13, calls.size());
        for (String call : calls) {
            CHECK.due("the readme has " + call, true, readme.contains(call));
        }
    }

    /** Words alone: without the signs of lists and fences of text, and with one space between two words. */
    private static String joined(String text) {
        return text.replaceAll("(?m)^- ", "").replaceAll("```(text)?\\n", "").replaceAll("\\s+", " ");
    }
}
