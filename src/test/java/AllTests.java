/** Runs all tests of the project; ends with exit code 1 if one fails. */
final class AllTests {
    private AllTests() {
    }

    public static void main(String[] args) throws Exception {
        RuleTests.run();
        RefusalTests.run();
        CaseEdges.run();
        TongueEdges.run();
        PageEdges.run();
        WordingEdges.run();
        WeekEdges.run();
        TradeEdges.run();
        EachTests.run();
        ReadingTests.run();
        AskingTests.run();
        PageTests.run();
        WordingTests.run();
        WeekTests.run();
        TradeTests.run();
        AgainstModelTests.run();
        System.out.println(Checks.passed + " passed, " + Checks.failed + " failed");
        if (Checks.failed > 0) {
            System.exit(1);
        }
    }
}
