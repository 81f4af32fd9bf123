// Runs all tests of the project and ends with exit code 1 if one failed, or if a promise or the
// terms have none.
public final class AllTests {
    private static final int PROMISES = 26;

    public static void main(String[] args) {
        Check check = new Check();
        new FaceTest(check).run();
        new TermsTest(check).run();
        new HoldTest(check).run();
        new HoldingsTest(check).run();
        new GoodwillTest(check).run();
        new BooksTest(check).run();
        new BalancesTest(check).run();
        new GroupTest(check).run();
        new ModelTest(check).run();
        new ReadmeTest(check).run();
        int missing = promisesWithoutTest(check);
        System.out.println(check.tests() + " tests with " + check.checks() + " checks, "
            + check.failedTests() + " failed");
        if (check.failedTests() > 0 || missing > 0) {
            System.exit(1);
        }
    }

    private static int promisesWithoutTest(Check check) {
        int missing = check.hasTestOf("Terms") && check.hasTestOf("Head") ? 0 : 1;
        for (int promise = 1; promise <= PROMISES; promise++) {
            if (!check.hasTestOf("Promise " + promise)) {
                System.out.println("FAILED: no test of promise " + promise);
                missing++;
            }
        }
        return missing;
    }
}
