/** Runs every test of the project; ends with exit code 1 if an answer is not as due. */
public final class AllTests {
    private AllTests() {
    }

    public static void main(String[] args) {
        FaceTest.run();
        BuildingTest.run();
        OrderTest.run();
        RunTest.run();
        FailuresTest.run();
        SavingTest.run();
        KindsTest.run();
        MemoryKindsTest.run();
        TermsEdgesTest.run();
        KindEdgesTest.run();
        PromiseEdgesTest.run();
        RefusalsTest.run();
        AnyCallsTest.run();
        ReadmeTest.run();
        ModelTest.run();
        if (!Check.close()) {
            System.exit(1);
        }
    }
}
