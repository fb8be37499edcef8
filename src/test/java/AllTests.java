/** Runs the project's own tests; the argument is the path of LeftBehind.java. */
public final class AllTests {
    private AllTests() {
    }

    public static void main(String[] args) throws Exception {
        IslandTests.run();
        CallTests.run();
        LeftTests.run();
        SkillTests.run();
        KeepingTests.run();
        ModelTests.run();
        LanguageTests.run(args[0]);
        System.out.println(Check.sum());
        if (Check.anyFailed()) {
            System.exit(1);
        }
    }
}
