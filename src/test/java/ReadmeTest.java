import java.io.File;
import java.net.URL;
import java.net.URLClassLoader;
import java.nio.file.Files;
import java.nio.file.Path;
import java.util.ArrayList;
import java.util.List;
import java.util.regex.Matcher;
import java.util.regex.Pattern;
import javax.tools.ToolProvider;

/** What README.md shows is so: each call in its examples answers what stands behind it, and each test is named. */
public final class ReadmeTest extends Checks {
    private static final Path README = Path.of("README.md");
    private static final Path TESTS = Path.of("src/test/java");
    private static final Pattern BLOCK = Pattern.compile("(?ms)^```java\n(.*?)^```$");
    private static final Pattern CALL = Pattern.compile("(bank\\..*\\));\\s+// (-?\\d+)(:.*)?");

    /** The examples as one program, which gathers of each call its text, its answer, and what stands behind it. */
    private static String program(String readme) {
        StringBuilder lines = new StringBuilder();
        Matcher block = BLOCK.matcher(readme);
        while (block.find()) {
            for (String line : block.group(1).split("\n")) {
                Matcher call = CALL.matcher(line);
                boolean told = call.matches();
                if (!told && line.startsWith("bank.")) due("a call without an answer: " + line, 0, 1);
                lines.append(told ? "all.add(new Object[] {\"" + call.group(1) + "\", (long) " + call.group(1) + ", "
                    + call.group(2) + "L});" : line).append('\n');
            }
        }
        return "import java.util.*;\npublic class Examples {\npublic static List<Object[]> answers() {\n"
            + "List<Object[]> all = new ArrayList<>();\n" + lines + "return all;\n}\n}\n";
    }

    private static void examplesAreRight(String readme) throws Exception {
        Path work = Files.createTempDirectory("readme");
        Path source = work.resolve("Examples.java");
        try {
            Files.writeString(source, program(readme));
            int failed = ToolProvider.getSystemJavaCompiler().run(null, null, null, "-proc:none", "-d", work.toString(),
                "-cp", System.getProperty("java.class.path"), source.toString());
            due("the examples compile", failed, 0);
            if (failed != 0) return;
            try (URLClassLoader loader = new URLClassLoader(new URL[] {work.toUri().toURL()})) {
                List<?> answers = (List<?>) loader.loadClass("Examples").getMethod("answers").invoke(null);
                for (Object answer : answers) {
                    Object[] parts = (Object[]) answer;
                    due((String) parts[0], (long) parts[1], (long) parts[2]);
                }
                due("there are examples", answers.isEmpty() ? 0 : 1, 1);
            }
        } finally {
            List<File> made = new ArrayList<>(List.of(work.toFile().listFiles()));
            made.add(work.toFile());
            for (File file : made) file.delete();
        }
    }

    private static void testsAreNamed(String readme) throws Exception {
        try (var files = Files.list(TESTS)) {
            for (Path file : (Iterable<Path>) files::iterator) {
                String name = file.getFileName().toString();
                if (name.endsWith("Test.java")) due(name + " is named", readme.contains(name) ? 1 : 0, 1);
            }
        }
        String[] ways = {".ci/run", "java -cp build LongRunsTest", "java -cp build SentencesTest ",
            "../shared/tests/TuneLoansRuns.java"};
        for (String how : ways) {
            due("how tests are run is told: " + how, readme.contains(how) ? 1 : 0, 1);
        }
    }

    public static void main(String[] args) throws Exception {
        place = "README.md";
        String readme = Files.readString(README);
        examplesAreRight(readme);
        testsAreNamed(readme);
        end("examples");
    }
}
