public final class AllTests {
    private AllTests() {
    }

    public static void main(String[] args) throws Exception {
        FaceTest.run();
        RefusalsTest.run();
        EdgesTest.run();
        MetersTest.run();
        TicketsTest.run();
        LinesTest.run();
        SheetsTest.run();
        TellingTest.run();
        AnyCallsTest.run();
        ModelTest.run();
        ReadmeTest.run();
        if (!Check.close()) {
            System.exit(1);
        }
    }
}
