/** Runs every test of the project; ends with exit code 1 if one fails. */
final class AllTests {
    private AllTests() {
    }

    public static void main(String[] args) {
        LanguageTest.run();
        LibraryTest.run();
        ReadmeTest.run();
        FaceTest.run();
        HubTest.run();
        LineTest.run();
        AcceptTest.run();
        ScanTest.run();
        DeliveryTest.run();
        PassTest.run();
        ParcelTest.run();
        PathTest.run();
        BagTest.run();
        EventTest.run();
        FigureTest.run();
        HubTermsTest.run();
        LineTermsTest.run();
        ParcelTermsTest.run();
        PathTermsTest.run();
        PlanTermsTest.run();
        TruckTermsTest.run();
        LoadingTest.run();
        ScanTermsTest.run();
        DeliveryTermsTest.run();
        EventTermsTest.run();
        FigureTermsTest.run();
        ExceptionTest.run();
        IndexTest.run();
        LongUseTest.run();
        UnchangedTest.run();
        RandomRunsTest.run();
        Check.end();
    }
}
