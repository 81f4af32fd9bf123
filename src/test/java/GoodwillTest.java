// Promise 9, and what promise 3 says of goodwill.
public final class GoodwillTest {
    private final Check check;

    GoodwillTest(Check check) {
        this.check = check;
    }

    void run() {
        check.test("Promise 9: '0 at first'", this::noneAtFirst);
        check.test("Promise 9: 'over all acquisitions'", this::overAllAcquisitions);
        check.test("Promise 9: 'company: 0 to 5'", this::goodwillRefuses);
        check.test("Promise 9: an int holds what many acquisitions sum up to", this::farthest);
        check.test("Promise 3: 'grows by the price less the percent of its net value'",
            this::grows);
        check.test("Promise 3: 'percent * net value / 100', not exact", this::notExact);
        check.test("Promise 3: 'its net value', translated", this::translated);
        check.test("Promise 3: 'as it is', a net value below 0", this::netValueBelowZero);
        check.test("Promise 3: 'as it is', the net value of that time", this::ofThatTime);
        check.test("Promise 3: 'it can become less by that'", this::becomesLess);
        check.test("Promise 3: 'The goodwill of the other one', no other's", this::ofTheOther);
        check.test("Promise 3: a refused acquisition leaves goodwill", this::refusedLeavesIt);
    }

    private static Groupbooks withNetValue(int assets, int debts) {
        Groupbooks x = new Groupbooks();
        x.setBooks(1, assets, debts, assets - debts, 0);
        return x;
    }

    private void grown(int due, int assets, int debts, int percent, int price) {
        Groupbooks x = withNetValue(assets, debts);
        x.acquire(0, 1, percent, price);
        check.same(percent + " percent of " + (assets - debts) + " for " + price,
            x.goodwill(1), due);
    }

    private void noneAtFirst() {
        Groupbooks x = Scenes.circle();
        for (int company = 0; company < 6; company++) {
            check.same("nothing acquired", x.goodwill(company), 0);
        }
    }

    private void overAllAcquisitions() {
        Groupbooks x = new Groupbooks();
        x.acquire(0, 3, 30, 500);
        check.same("no net value", x.goodwill(3), 500);
        x.setBooks(3, 1000, 200, 700, 100);
        x.acquire(0, 3, 21, 500);
        check.same("500 less 168 more", x.goodwill(3), 832);
        x.acquire(1, 3, 10, 7);
        check.same("by another owner", x.goodwill(3), 832 + 7 - 80);
        x.hold(0, 3, 0);
        check.same("sold", x.goodwill(3), 759);
        x.acquire(0, 3, 90, 720);
        check.same("acquired again", x.goodwill(3), 759);
        x.close();
        check.same("closed", x.goodwill(3), 759);
    }

    private void goodwillRefuses() {
        Groupbooks x = new Groupbooks();
        x.acquire(1, 0, 5, 9);
        x.acquire(0, 5, 5, 8);
        check.same("the first", x.goodwill(0), 9);
        check.same("the last", x.goodwill(5), 8);
        check.refusesOutside(0, 5, (y, value) -> y.goodwill(value));
    }

    // At most 254 acquisitions of a whole company, with the sale between, are below 512 calls.
    private static Groupbooks acquiredOften(Groupbooks x, int times, int price) {
        x.setRates(1, 1000, 1, 1);
        for (int time = 0; time < times; time++) {
            x.acquire(0, 1, 100, price);
            x.hold(0, 1, 0);
        }
        return x;
    }

    private void farthest() {
        check.same("near the most of an int",
            acquiredOften(withNetValue(0, 1000000), 195, 1000000).goodwill(1), 2145000000);
        check.same("near the least of an int",
            acquiredOften(withNetValue(1000000, 0), 214, 0).goodwill(1), -2140000000);
        Groupbooks x = acquiredOften(withNetValue(0, 1000000), 254, 1000000);
        x.goodwill(1);
        check.same("beyond it, the holdings are as due", x.held(0, 1), 0);
    }

    private void grows() {
        grown(0, 0, 0, 1, 0);
        grown(1000000, 0, 0, 100, 1000000);
        grown(500 - 400, 800, 0, 50, 500);
        grown(0, 800, 0, 50, 400);
        grown(500 - 8, 800, 0, 1, 500);
        grown(500 - 800, 800, 0, 100, 500);
        grown(500, 800, 800, 100, 500);
    }

    private void notExact() {
        grown(500 - 167, 799, 0, 21, 500);
        grown(500 + 168, 0, 799, 21, 500);
        grown(0, 99, 0, 1, 0);
        grown(-1, 100, 0, 1, 0);
        grown(-1, 101, 0, 1, 0);
        grown(1, 0, 99, 1, 0);
        grown(1, 0, 100, 1, 0);
        grown(2, 0, 101, 1, 0);
    }

    private void translated() {
        Groupbooks x = withNetValue(1000, 200);
        x.setRates(1, 150, 1, 1);
        x.acquire(0, 1, 21, 500);
        check.same("at the closing rate", x.goodwill(1), 500 - 252);
        Groupbooks y = withNetValue(3, 1);
        y.setRates(1, 50, 1, 1);
        y.acquire(0, 1, 100, 0);
        check.same("1.5 and 0.5, each rounded down", y.goodwill(1), -1);
    }

    private void netValueBelowZero() {
        grown(1, 0, 1, 1, 0);
        grown(1000000 + 1000000, 0, 1000000, 100, 1000000);
        Groupbooks x = withNetValue(0, 1000000);
        x.setRates(1, 1000, 1, 1);
        x.acquire(0, 1, 100, 1000000);
        check.same("the most at once", x.goodwill(1), 11000000);
    }

    private void ofThatTime() {
        Groupbooks x = withNetValue(1000, 0);
        x.acquire(0, 1, 10, 0);
        x.setBooks(1, 0, 0, 0, 0);
        x.setRates(1, 7, 7, 7);
        check.same("books and rates told later", x.goodwill(1), -100);
        Groupbooks y = new Groupbooks();
        y.setBooks(1, 1000, 0, 0, 1000);
        y.hold(0, 1, 60);
        y.acquire(0, 1, 10, 0);
        check.same("not what is held already", y.goodwill(1), -100);
        y.close();
        y.acquire(0, 1, 10, 0);
        check.same("the same after closing", y.goodwill(1), -200);
    }

    private void becomesLess() {
        Groupbooks x = withNetValue(1000, 0);
        x.acquire(0, 1, 10, 300);
        x.acquire(0, 1, 10, 0);
        check.same("less", x.goodwill(1), 100);
        x.acquire(0, 1, 10, 0);
        check.same("nothing", x.goodwill(1), 0);
        x.acquire(0, 1, 10, 0);
        check.same("below 0", x.goodwill(1), -100);
        x.setRates(1, 1000, 1, 1);
        x.setBooks(1, 1000000, 0, 1000000, 0);
        x.hold(0, 1, 0);
        x.acquire(0, 1, 100, 0);
        check.same("the least at once", x.goodwill(1), -10000100);
    }

    private void ofTheOther() {
        Groupbooks x = withNetValue(1000, 0);
        x.setBooks(0, 900, 0, 900, 0);
        x.acquire(0, 1, 10, 300);
        check.same("the acquired one's", x.goodwill(1), 200);
        check.same("not the owner's", x.goodwill(0), 0);
        x.acquire(1, 0, 10, 300);
        check.same("of the parent", x.goodwill(0), 210);
        check.same("and no more", x.goodwill(1), 200);
    }

    private void refusedLeavesIt() {
        Groupbooks x = Scenes.fullBy(2);
        x.setBooks(2, 1000, 0, 1000, 0);
        check.note(Check.thrownBy(x, y -> y.acquire(0, 2, 1, 77))
            == IllegalStateException.class, "all is held");
        check.note(Check.thrownBy(x, y -> y.acquire(0, 2, 0, 77))
            == IllegalArgumentException.class, "no percent");
        check.same("nothing acquired", x.goodwill(2), 0);
    }
}
