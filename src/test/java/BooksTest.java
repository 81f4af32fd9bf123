// Promises 10 to 15, and what 'Terms' says of them: the books and their translation.
public final class BooksTest {
    private final Check check;

    BooksTest(Check check) {
        this.check = check;
    }

    void run() {
        check.test("Promise 10: 'Sets the books of a company'", this::setBooksSets);
        check.test("Promise 10: 'company: 0 to 5'", this::companyOfBooks);
        check.test("Promise 10: 'assets: 0 to 1000000'", this::assetsOfBooks);
        check.test("Promise 10: 'debts: 0 to 1000000'", this::debtsOfBooks);
        check.test("Promise 10: 'equity: -1000000 to 1000000'", this::equityOfBooks);
        check.test("Promise 10: 'result: -1000000 to 1000000'", this::resultOfBooks);
        check.test("Promise 10: 'or assets are not debts, equity and result together'",
            this::unbalancedBooks);
        check.test("Terms: 'assets are always debts, equity and result together', wrapped",
            this::wrappedBooks);
        check.test("Terms: 'assets are always debts, equity and result together', closed",
            this::closedBooks);
        check.test("Promise 11: 'Sets the rates of a company'", this::setRatesSets);
        check.test("Promise 11: 'company: 0 to 5'", this::companyOfRates);
        check.test("Promise 11: 'closing: 1 to 1000'", this::closingRates);
        check.test("Promise 11: 'average: 1 to 1000'", this::averageRates);
        check.test("Promise 11: 'historical: 1 to 1000'", this::historicalRates);
        check.test("Terms: 'all 100 at first'", this::ratesAtFirst);
        check.test("Terms: 'The net value', each part rounded", this::netValueRoundsEach);
        check.test("Promise 12: the least and the most net value", this::farthestNetValues);
        check.test("Promise 12: 'company: 0 to 5'", this::netValueRefuses);
        check.test("Promise 13: the translated equity", this::equities);
        check.test("Promise 13: 'company: 0 to 5'", this::equityRefuses);
        check.test("Promise 14: the translated result", this::results);
        check.test("Promise 14: 'company: 0 to 5'", this::resultRefuses);
        check.test("Terms: 'The reserve is the translated assets less', rounded parts",
            this::reserves);
        check.test("Promise 15: the least and the most reserve", this::farthestReserves);
        check.test("Promise 15: 'company: 0 to 5'", this::reserveRefuses);
    }

    // Calls that answer nothing, as calls that answer 0; the parts are assets, debts, equity and
    // result.
    static long books(Groupbooks x, int company, int... parts) {
        x.setBooks(company, parts[0], parts[1], parts[2], parts[3]);
        return 0;
    }

    static long rates(Groupbooks x, int company, int... three) {
        x.setRates(company, three[0], three[1], three[2]);
        return 0;
    }

    private void refusesBooks(int... parts) {
        check.refusesArgument(x -> books(x, 0, parts));
        check.refusesArgument(x -> books(x, 5, parts));
    }

    // Takes the books and shows them, all at rates of 100.
    private void takesBooks(int assets, int debts, int equity, int result) {
        Groupbooks x = Scenes.busy();
        x.hold(0, 1, 0);
        x.hold(0, 3, 0);
        x.setBooks(0, assets, debts, equity, result);
        x.setRates(0, 100, 100, 100);
        check.same("assets", x.assets(), assets);
        check.same("debts", x.debts(), debts);
        check.same("equity", x.translatedEquity(0), equity);
        check.same("result", x.translatedResult(0), result);
    }

    private void setBooksSets() {
        Groupbooks x = new Groupbooks();
        x.setBooks(5, 1000, 400, 500, 100);
        check.same("net value", x.netValue(5), 600);
        check.same("equity", x.translatedEquity(5), 500);
        check.same("result", x.translatedResult(5), 100);
        check.same("another's", x.netValue(4), 0);
        x.setBooks(5, 10, 40, 50, -80);
        check.same("again, net value", x.netValue(5), -30);
        check.same("again, equity", x.translatedEquity(5), 50);
        check.same("again, result", x.translatedResult(5), -80);
        x.setBooks(5, 0, 0, 0, 0);
        check.same("empty, net value", x.netValue(5), 0);
        check.same("empty, equity", x.translatedEquity(5), 0);
        check.same("empty, result", x.translatedResult(5), 0);
        x.setRates(5, 200, 100, 100);
        x.setBooks(5, 10, 0, 0, 10);
        check.same("rates are as they were", x.netValue(5), 20);
    }

    private void companyOfBooks() {
        check.same("the first", books(Scenes.fresh(), 0, 1, 1, 0, 0), 0);
        check.same("the last", books(Scenes.fresh(), 5, 1, 1, 0, 0), 0);
        check.refusesOutside(0, 5, (x, value) -> books(x, value, 0, 0, 0, 0));
        check.refusesOutside(0, 5, (x, value) -> books(x, value, 1, 1, 0, 0));
    }

    private void assetsOfBooks() {
        takesBooks(0, 0, 0, 0);
        takesBooks(0, 1, -1, 0);
        takesBooks(1000000, 0, 1000000, 0);
        takesBooks(1000000, 400000, 300000, 300000);
        refusesBooks(-1, 0, -1, 0);
        refusesBooks(-1, 1, -1, -1);
        refusesBooks(1000001, 1, 1000000, 0);
        refusesBooks(1000001, 0, 1000000, 1);
        check.refusesOutside(0, 1000000, (x, value) -> books(x, 0, value, 0, 0, 0));
    }

    private void debtsOfBooks() {
        takesBooks(1, 0, 1, 0);
        takesBooks(0, 1000000, -1000000, 0);
        takesBooks(1000000, 1000000, 0, 0);
        refusesBooks(0, -1, 1, 0);
        refusesBooks(0, -1, 0, 1);
        refusesBooks(1000000, 1000001, -1, 0);
        refusesBooks(1000000, 1000001, 0, -1);
        check.refusesOutside(0, 1000000, (x, value) -> books(x, 0, 0, value, 0, 0));
    }

    private void equityOfBooks() {
        takesBooks(0, 1000000, -1000000, 0);
        takesBooks(0, 0, -1000000, 1000000);
        takesBooks(1000000, 0, 1000000, 0);
        takesBooks(0, 0, 1000000, -1000000);
        refusesBooks(0, 1000000, -1000001, 1);
        refusesBooks(0, 1, -1000001, 1000000);
        refusesBooks(1000000, 0, 1000001, -1);
        refusesBooks(1, 0, 1000001, -1000000);
        check.refusesOutside(-1000000, 1000000, (x, value) -> books(x, 0, 0, 0, value, 0));
    }

    private void resultOfBooks() {
        takesBooks(0, 1000000, 0, -1000000);
        takesBooks(1000000, 1000000, 1000000, -1000000);
        takesBooks(1000000, 0, 0, 1000000);
        takesBooks(1000000, 1000000, -1000000, 1000000);
        refusesBooks(0, 1000000, 1, -1000001);
        refusesBooks(0, 1, 1000000, -1000001);
        refusesBooks(1000000, 0, -1, 1000001);
        refusesBooks(1, 0, -1000000, 1000001);
        check.refusesOutside(-1000000, 1000000, (x, value) -> books(x, 0, 0, 0, 0, value));
    }

    private void unbalancedBooks() {
        takesBooks(1000, 400, 500, 100);
        refusesBooks(999, 400, 500, 100);
        refusesBooks(1001, 400, 500, 100);
        refusesBooks(1000, 399, 500, 100);
        refusesBooks(1000, 401, 500, 100);
        refusesBooks(1000, 400, 499, 100);
        refusesBooks(1000, 400, 501, 100);
        refusesBooks(1000, 400, 500, 99);
        refusesBooks(1000, 400, 500, 101);
        refusesBooks(1000, 400, 500, -100);
        refusesBooks(0, 0, 0, 1);
        refusesBooks(0, 0, 0, -1);
        refusesBooks(1000000, 1000000, 1000000, 1000000);
        refusesBooks(0, 0, -1000000, -1000000);
    }

    // Sums that come out even only beyond the range of an int.
    private void wrappedBooks() {
        refusesBooks(0, Integer.MAX_VALUE, Integer.MAX_VALUE, 2);
        refusesBooks(0, 0, Integer.MIN_VALUE, Integer.MIN_VALUE);
        refusesBooks(Integer.MIN_VALUE, 0, Integer.MIN_VALUE, 0);
        refusesBooks(1000000, Integer.MIN_VALUE, Integer.MIN_VALUE, 1000000);
    }

    private void closed(int due, int assets, int debts, int equity, int result) {
        Groupbooks x = new Groupbooks();
        for (int company = 0; company < 6; company++) {
            x.setBooks(company, assets, debts, equity, result);
        }
        x.close();
        for (int company = 0; company < 6; company++) {
            check.same("equity", x.translatedEquity(company), due);
            check.same("result", x.translatedResult(company), 0);
            check.same("nothing is left over", x.reserve(company), 0);
        }
    }

    private void closedBooks() {
        closed(600, 1000, 400, 500, 100);
        closed(1000000, 1000000, 0, 0, 1000000);
        closed(-1000000, 0, 1000000, 0, -1000000);
        closed(0, 1000000, 1000000, -1000000, 1000000);
        closed(0, 0, 0, 1000000, -1000000);
        closed(0, 0, 0, 0, 0);
    }

    private void setRatesSets() {
        Groupbooks x = new Groupbooks();
        x.setBooks(2, 1000, 400, 500, 100);
        x.setBooks(3, 1000, 400, 500, 100);
        x.setRates(2, 110, 105, 90);
        check.same("closing", x.netValue(2), 660);
        check.same("average", x.translatedResult(2), 105);
        check.same("historical", x.translatedEquity(2), 450);
        check.same("another's", x.netValue(3), 600);
        x.setRates(2, 90, 110, 105);
        check.same("closing again", x.netValue(2), 540);
        check.same("average again", x.translatedResult(2), 110);
        check.same("historical again", x.translatedEquity(2), 525);
    }

    private void companyOfRates() {
        check.same("the first", rates(Scenes.fresh(), 0, 1, 1, 1), 0);
        check.same("the last", rates(Scenes.fresh(), 5, 1, 1, 1), 0);
        check.refusesOutside(0, 5, (x, value) -> rates(x, value, 7, 7, 7));
        check.refusesOutside(0, 5, (x, value) -> rates(x, value, 100, 100, 100));
    }

    private static Groupbooks thousand(int company) {
        Groupbooks x = new Groupbooks();
        x.setBooks(company, 1000, 400, 500, 100);
        return x;
    }

    private void closingRates() {
        Groupbooks x = thousand(0);
        x.setRates(0, 1, 100, 100);
        check.same("the least, assets", x.assets(), 10);
        check.same("the least, debts", x.debts(), 4);
        x.setRates(0, 1000, 100, 100);
        check.same("the most, assets", x.assets(), 10000);
        check.same("the most, debts", x.debts(), 4000);
        check.same("not of the equity", x.translatedEquity(0), 500);
        check.same("not of the result", x.translatedResult(0), 100);
        check.refusesOutside(1, 1000, (y, value) -> rates(y, 0, value, 7, 7));
        check.refusesOutside(1, 1000, (y, value) -> rates(y, 5, value, 1, 1000));
    }

    private void averageRates() {
        Groupbooks x = thousand(5);
        x.setRates(5, 100, 1, 100);
        check.same("the least", x.translatedResult(5), 1);
        x.setRates(5, 100, 1000, 100);
        check.same("the most", x.translatedResult(5), 1000);
        check.same("not of the equity", x.translatedEquity(5), 500);
        check.same("not of the net value", x.netValue(5), 600);
        check.refusesOutside(1, 1000, (y, value) -> rates(y, 0, 7, value, 7));
        check.refusesOutside(1, 1000, (y, value) -> rates(y, 5, 1, value, 1000));
    }

    private void historicalRates() {
        Groupbooks x = thousand(3);
        x.setRates(3, 100, 100, 1);
        check.same("the least", x.translatedEquity(3), 5);
        x.setRates(3, 100, 100, 1000);
        check.same("the most", x.translatedEquity(3), 5000);
        check.same("not of the result", x.translatedResult(3), 100);
        check.same("not of the net value", x.netValue(3), 600);
        check.refusesOutside(1, 1000, (y, value) -> rates(y, 0, 7, 7, value));
        check.refusesOutside(1, 1000, (y, value) -> rates(y, 5, 1, 1000, value));
    }

    private void ratesAtFirst() {
        for (int company = 0; company < 6; company++) {
            Groupbooks x = thousand(company);
            check.same("closing", x.netValue(company), 600);
            check.same("average", x.translatedResult(company), 100);
            check.same("historical", x.translatedEquity(company), 500);
        }
    }

    private void netValueRoundsEach() {
        Groupbooks x = new Groupbooks();
        x.setBooks(1, 5, 2, 3, 0);
        x.setRates(1, 50, 100, 100);
        check.same("2.5 less 1", x.netValue(1), 1);
        x.setBooks(1, 4, 1, 3, 0);
        check.same("2 less 0.5", x.netValue(1), 2);
        x.setBooks(1, 2, 5, -3, 0);
        check.same("1 less 2.5", x.netValue(1), -1);
        x.setBooks(1, 3, 3, 0, 0);
        check.same("1.5 less 1.5", x.netValue(1), 0);
    }

    private static Groupbooks booksAt(int closing, int average, int historical, int... parts) {
        Groupbooks x = new Groupbooks();
        books(x, 1, parts);
        x.setRates(1, closing, average, historical);
        return x;
    }

    private void farthestNetValues() {
        check.same("the most", booksAt(1000, 1, 1, 1000000, 0, 1000000, 0).netValue(1), 10000000);
        check.same("the least", booksAt(1000, 1, 1, 0, 1000000, -1000000, 0).netValue(1),
            -10000000);
        check.same("both", booksAt(1000, 1, 1, 1000000, 1000000, 0, 0).netValue(1), 0);
        check.same("the least rate", booksAt(1, 9, 9, 1000000, 0, 1000000, 0).netValue(1), 10000);
    }

    private void netValueRefuses() {
        check.same("the first", thousand(0).netValue(0), 600);
        check.same("the last", thousand(5).netValue(5), 600);
        check.refusesOutside(0, 5, (x, value) -> x.netValue(value));
    }

    private void equities() {
        check.same("33 halves", booksAt(100, 100, 50, 33, 0, 33, 0).translatedEquity(1), 16);
        check.same("-33 halves", booksAt(100, 100, 50, 0, 33, -33, 0).translatedEquity(1), -17);
        check.same("-32 halves", booksAt(100, 100, 50, 0, 32, -32, 0).translatedEquity(1), -16);
        check.same("the most", booksAt(1, 1, 1000, 0, 0, 1000000, -1000000).translatedEquity(1),
            10000000);
        check.same("the least", booksAt(1, 1, 1000, 0, 0, -1000000, 1000000).translatedEquity(1),
            -10000000);
    }

    private void equityRefuses() {
        check.same("the first", thousand(0).translatedEquity(0), 500);
        check.same("the last", thousand(5).translatedEquity(5), 500);
        check.refusesOutside(0, 5, (x, value) -> x.translatedEquity(value));
    }

    private void results() {
        check.same("33 halves", booksAt(100, 50, 100, 33, 0, 0, 33).translatedResult(1), 16);
        check.same("-33 halves", booksAt(100, 50, 100, 0, 33, 0, -33).translatedResult(1), -17);
        check.same("-32 halves", booksAt(100, 50, 100, 0, 32, 0, -32).translatedResult(1), -16);
        check.same("the most", booksAt(1, 1000, 1, 0, 0, -1000000, 1000000).translatedResult(1),
            10000000);
        check.same("the least", booksAt(1, 1000, 1, 0, 0, 1000000, -1000000).translatedResult(1),
            -10000000);
    }

    private void resultRefuses() {
        check.same("the first", thousand(0).translatedResult(0), 100);
        check.same("the last", thousand(5).translatedResult(5), 100);
        check.refusesOutside(0, 5, (x, value) -> x.translatedResult(value));
    }

    private void reserves() {
        check.same("at par", booksAt(100, 100, 100, 1000, 400, 500, 100).reserve(1), 0);
        check.same("660 less 450 and 105",
            booksAt(110, 105, 90, 1000, 400, 500, 100).reserve(1), 105);
        check.same("540 less 550 and 105",
            booksAt(90, 105, 110, 1000, 400, 500, 100).reserve(1), -115);
        check.same("1.5 less 0.5, 0.5 and 0.5", booksAt(50, 50, 50, 3, 1, 1, 1).reserve(1), 1);
        check.same("0.5 less 1.5 and -0.5 and -0.5",
            booksAt(50, 50, 50, 1, 3, -1, -1).reserve(1), 1);
        check.same("an empty company", booksAt(7, 8, 9, 0, 0, 0, 0).reserve(1), 0);
    }

    private void farthestReserves() {
        check.same("the most", booksAt(1000, 1, 1000, 1000000, 0, 0, 1000000).reserve(1),
            9990000);
        check.same("the most, of a loss",
            booksAt(1, 1, 1000, 0, 0, -1000000, 1000000).reserve(1), 9990000);
        check.same("the least", booksAt(1, 1000, 1, 1000000, 0, 0, 1000000).reserve(1), -9990000);
        check.same("the least, of a debt",
            booksAt(1000, 1, 1, 0, 1000000, -1000000, 0).reserve(1), -9990000);
    }

    private void reserveRefuses() {
        Groupbooks x = Scenes.circle();
        x.setBooks(5, 9, 0, 0, 9);
        x.setRates(5, 200, 100, 100);
        check.same("the first", x.reserve(0), 0);
        check.same("the last", x.reserve(5), 9);
        check.refusesOutside(0, 5, (y, value) -> y.reserve(value));
    }
}
