import java.io.ByteArrayOutputStream;
import java.io.IOException;
import java.io.PrintStream;
import java.net.URL;
import java.net.URLClassLoader;
import java.nio.file.Files;
import java.nio.file.Path;
import java.util.regex.Matcher;
import java.util.regex.Pattern;
import javax.tools.ToolProvider;

/** README.md: its example does what it says there, and each call and constant stands there as it is. */
final class ReadmeTests {
    private ReadmeTests() {
    }

    static void run(Path path, Path source) throws Exception {
        String readme = Files.readString(path);
        calls(readme, Files.readString(source));
        constants(readme);
        numbers(readme);
        text(readme);
        example(readme);
    }

    /** What stands between the fences, the first block of the kind behind the words. */
    private static String block(String readme, String words, String kind) {
        int from = readme.indexOf("```" + kind + "\n", Math.max(0, readme.indexOf(words)));
        int begin = readme.indexOf('\n', Math.max(0, from)) + 1;
        int end = readme.indexOf("```", begin);
        Check.holds("README: a block of " + kind + " behind '" + words + "'", readme.contains(words) && from >= 0 && end > begin);
        return end > begin ? readme.substring(begin, end) : "";
    }

    private static void calls(String readme, String source) {
        Matcher call = Pattern.compile("public (?:int|long) (\\w+\\([^)]*\\)) \\{").matcher(source);
        int found = 0;
        while (call.find()) {
            Check.holds("README: a row for " + call.group(1), readme.contains("| `" + call.group(1) + "` | "));
            found++;
        }
        Check.due("README: calls looked for", found, 37);
    }

    private static void constants(String readme) throws IllegalAccessException {
        for (java.lang.reflect.Field constant : LeftBehind.class.getFields()) {
            String row = "| `" + constant.getName() + "` | " + constant.getInt(null) + " |";
            Check.holds("README: " + row, readme.contains(row));
        }
    }

    private static void numbers(String readme) throws IllegalAccessException {
        int[] room = LanguageTests.roomOf(new LeftBehind());
        String told = room[0] + " objects and arrays with " + room[1] + " fields and elements";
        Check.holds("README: " + told, readme.replaceAll("\\s+", " ").contains(told));
        Check.holds("README: for how many calls", readme.contains("**512 calls**"));
    }

    private static void text(String readme) {
        LeftBehind x = Edge.typed(block(readme, "The text that `read` reads", "text").trim());
        Check.due("README: the text's items", x.read(), 6);
    }

    private static void example(String readme) throws Exception {
        String program = block(readme, "How to use it", "java");
        Path folder = ownFolder();
        Path file = folder.resolve("Example.java");
        Files.writeString(file, program);
        String classes = System.getProperty("java.class.path");
        int failed = ToolProvider.getSystemJavaCompiler()
            .run(null, null, null, "-cp", classes, "-d", folder.toString(), file.toString());
        Check.due("README: the example is compiled", failed, 0);
        if (failed == 0) {
            String printed = printedBy(folder);
            String due = block(readme, "It prints:", "text");
            Check.holds("README: the example prints what stands there, not\n" + printed, printed.equals(due));
        }
    }

    /** Beside the folder of the compiled tests, so that nothing is written but where they are. */
    private static Path ownFolder() throws Exception {
        Path tests = Path.of(ReadmeTests.class.getProtectionDomain().getCodeSource().getLocation().toURI());
        return Files.createDirectories(tests.resolveSibling("readme"));
    }

    private static String printedBy(Path folder) throws ReflectiveOperationException, IOException {
        PrintStream before = System.out;
        ByteArrayOutputStream printed = new ByteArrayOutputStream();
        System.setOut(new PrintStream(printed, true));
        try (URLClassLoader loader = new URLClassLoader(new URL[] {folder.toUri().toURL()})) {
            loader.loadClass("Example").getMethod("main", String[].class).invoke(null, (Object) new String[0]);
        } finally {
            System.setOut(before);
        }
        return printed.toString().replace(System.lineSeparator(), "\n");
    }
}
