// Runs all tests of the project and ends with exit code 1 if a check failed.
public final class AllTests {
    public static void main(String[] args) {
        Check check = new Check();
        new HoldingsTest(check).run();
        new BooksTest(check).run();
        new BalancesTest(check).run();
        new GroupTest(check).run();
        new ModelTest(check).run();
        System.out.println(check.passed() + " passed, " + check.failed() + " failed");
        if (check.failed() > 0 || check.passed() == 0) {
            System.exit(1);
        }
    }
}
