/** Runs every test of the project; ends with exit code 1 if one fails. */
public final class AllTests {
    private static final int RANDOM_RUNS = 3000;

    private AllTests() {
    }

    public static void main(String[] arguments) {
        Results results = new Results();
        FaceTest.run(results);
        LanguageTest.run(results);
        ReadmeTest.run(results);
        ThrowsTest.run(results);
        OverviewTest.run(results);
        MailsTest.run(results);
        QuotingTest.run(results);
        TalkTest.run(results);
        ThreadsTest.run(results);
        TermsBoundsTest.run(results);
        MailsBoundsTest.run(results);
        QuotingBoundsTest.run(results);
        TalkBoundsTest.run(results);
        ThreadsBoundsTest.run(results);
        QuotingRelationsTest.run(results);
        TalkRelationsTest.run(results);
        AlignmentsTest.run(results);
        RandomRunsTest.run(results, RANDOM_RUNS);
        if (!results.sum()) {
            System.exit(1);
        }
    }
}
