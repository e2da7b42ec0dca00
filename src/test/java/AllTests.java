/** Runs every test of the project; its exit code is 1 if one fails. */
public final class AllTests {
    private AllTests() {
    }

    public static void main(String[] args) throws Exception {
        PromiseTest.run();
        TextTest.run();
        TermsTest.run();
        MilesTest.run();
        TextEdgesTest.run();
        EdgesTest.run();
        FindingEdgesTest.run();
        CircuitEdgesTest.run();
        HostEdgesTest.run();
        NothingChangesTest.run();
        ExtremesTest.run();
        OracleTest.run();
        LanguageTest.run(args.length > 0 ? args[0] : "src/main/java/PebbleInShoe.java");
        ReadmeTest.run(args.length > 1 ? args[1] : "README.md");
        System.out.println(Check.passed + " passed, " + Check.failed + " failed");
        if (Check.failed != 0) {
            System.exit(1);
        }
    }
}
