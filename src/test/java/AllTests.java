/** Runs every test of the project. */
public final class AllTests {
    private AllTests() {
    }

    public static void main(String[] arguments) {
        Checks check = new Checks();
        FaceTest.run(check);
        LanguageTest.run(check);
        PromiseTest.run(check);
        TermsEdgeTest.run(check);
        LightEdgeTest.run(check);
        UndoEdgeTest.run(check);
        PromiseEdgeTest.run(check);
        ReadmeTest.run(check);
        TextTest.run(check);
        TextEdgeTest.run(check);
        ModelTest.run(check);
        System.out.println(check.passed() + " passed, " + check.failed() + " failed");
        if (check.failed() != 0 || check.passed() == 0) {
            System.exit(1);
        }
    }
}
