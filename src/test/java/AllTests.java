/** Runs every test of the project; ends with exit code 1 if one fails. */
final class AllTests {
    private AllTests() {
    }

    public static void main(String[] args) {
        LanguageTest.run();
        FaceTest.run();
        HubTest.run();
        LineTest.run();
        AcceptTest.run();
        ScanTest.run();
        DeliveryTest.run();
        PassTest.run();
        ParcelTest.run();
        PathTest.run();
        BagTest.run();
        EventTest.run();
        FigureTest.run();
        RandomRunsTest.run();
        Check.end();
    }
}
