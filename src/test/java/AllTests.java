/** Runs every test of the project; ends with exit code 1 if one fails. */
public final class AllTests {
    private AllTests() {
    }

    public static void main(String[] args) throws Exception {
        FaceTests.runAll();
        String file = args.length > 0 ? args[0] : "src/main/java/SteppedSpines.java";
        LanguageTests.runAll(file);
        RuleTests.runAll(file);
        ReadmeTests.runAll(file);
        BlockTests.runAll();
        TextTests.runAll();
        LookTests.runAll();
        RefusalTests.runAll();
        RangeTests.runAll();
        TermTests.runAll();
        GrammarTests.runAll();
        UndoTests.runAll();
        RandomRuns.runAll();
        if (!Checks.closeWith("tests of the project")) {
            System.exit(1);
        }
    }
}
