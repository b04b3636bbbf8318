/** Runs all tests of the project; exit code 1 if one fails. */
final class AllTests {
    private AllTests() {
    }

    public static void main(String[] args) {
        CaseTests.run();
        FormeTests.run();
        WhatIfTests.run();
        StateTests.run();
        CaseEdgeTests.run();
        FormeEdgeTests.run();
        WhatIfEdgeTests.run();
        StateEdgeTests.run();
        RefusalTests.run();
        FaceTests.run();
        ReadmeTests.run();
        ModelTests.run();
        System.out.println(Check.summary());
        if (Check.failed() != 0) {
            System.exit(1);
        }
    }
}
