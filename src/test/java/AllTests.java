/** Runs every test of the project. */
public final class AllTests {
    private AllTests() {
    }

    public static void main(String[] args) {
        FaceTest.run();
        ArgumentsTest.run();
        LimitsTest.run();
        TimeEdgesTest.run();
        ContractEdgesTest.run();
        LeaveEdgesTest.run();
        ElementEdgesTest.run();
        MoneyEdgesTest.run();
        GarnishmentEdgesTest.run();
        ClosingEdgesTest.run();
        ContractsTest.run();
        LeaveTest.run();
        ElementsTest.run();
        TablesTest.run();
        SlipsTest.run();
        GarnishmentsTest.run();
        ClosingTest.run();
        RandomRunsTest.run();
        if (!Check.end()) {
            System.exit(1);
        }
    }
}
