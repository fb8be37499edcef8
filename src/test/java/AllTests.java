import java.nio.file.Files;
import java.nio.file.Path;

/**
 * Runs the project's own tests; the arguments are the paths of LeftBehind.java, of DOC.md and of README.md. With a
 * fourth one, whatever it is, the tests of the document's sentences alone are run.
 */
public final class AllTests {
    private static final long LIMIT_IN_MILLISECONDS = 600_000;

    private AllTests() {
    }

    public static void main(String[] args) throws Exception {
        watch();
        sentences(args[0], args[1]);
        if (args.length == 3) {
            IslandTests.run();
            CallTests.run();
            LeftTests.run();
            SkillTests.run();
            KeepingTests.run();
            ModelTests.run();
            LanguageTests.run(args[0]);
            ReadmeTests.run(Path.of(args[2]), Path.of(args[0]));
        }
        System.out.println(Check.sum());
        if (Check.anyFailed()) {
            System.exit(1);
        }
    }

    /** A call that does not end is a failure, not a run without an end. */
    private static void watch() {
        Thread watch = new Thread(() -> {
            try {
                Thread.sleep(LIMIT_IN_MILLISECONDS);
            } catch (InterruptedException ended) {
                return;
            }
            System.out.println("the tests do not end");
            Runtime.getRuntime().halt(1);
        });
        watch.setDaemon(true);
        watch.start();
    }

    private static void sentences(String source, String document) throws java.io.IOException {
        Edge.document(Path.of(document));
        OpeningEdges.run();
        FaceEdges.run(Files.readString(Path.of(source)));
        TermEdges.run();
        TextEdges.run();
        IslandEdges.run();
        CallEdges.run();
        LeftEdges.run();
        SkillEdges.run();
        KeepingEdges.run();
        Edge.allIsQuoted();
        System.out.println(Edge.tests() + " tests of sentences");
    }
}
