// Promises 20 to 26, and what 'Terms' says of them: the accounts of the group and their closings.
public final class GroupTest {
    private static final int MOST_PERIODS = 12;

    private final Check check;

    GroupTest(Check check) {
        this.check = check;
    }

    void run() {
        check.test("Promise 20: 'the assets of the group', translated, less all eliminated",
            this::assetsOfTheGroup);
        check.test("Promise 20: the empty and the full case", this::farthestAssets);
        check.test("Promise 21: 'the debts of the group', translated, less all eliminated",
            this::debtsOfTheGroup);
        check.test("Promise 21: the empty and the full case", this::farthestDebts);
        check.test("Promise 22: '0 if it is not in the group'", this::minorityOutside);
        check.test("Promise 22: the minority share of the parent", this::minorityOfTheParent);
        check.test("Promise 22: 'company: 0 to 5'", this::minorityRefuses);
        check.test("Terms: 'its net value times 1 less its effective share, rounded down'",
            this::minorities);
        check.test("Terms: 'its net value times 1 less its effective share', the widest",
            this::widestMinorities);
        check.test("Promise 23: 'its assets less its debts less the minority shares'",
            this::equityOfTheGroup);
        check.test("Promise 23: the empty and the full case", this::farthestEquities);
        check.test("Promise 24: 'the translated result times the effective share'",
            this::resultOfTheGroup);
        check.test("Promise 24: 'each rounded down'", this::resultRoundsEach);
        check.test("Promise 24: the empty and the full case", this::farthestResults);
        check.test("Promise 24: the widest share", this::widestResults);
        check.test("Promise 25: 'the result is added to the equity, and becomes 0'",
            this::closeCarries);
        check.test("Promise 25: 'in the books of each company', those outside too",
            this::closeOutside);
        check.test("Promise 25: 'Returns the result of the group for this period'",
            this::closeAnswers);
        check.test("Promise 25: a closing leaves all else", this::closeLeavesTheRest);
        check.test("Promise 25: 'if 12 periods are closed'", this::thirteenthClosing);
        check.test("Promise 26: 'below the number of closed periods'", this::periodsClosed);
        check.test("Promise 26: 'period: 0 to 11'", this::periodRange);
        check.test("Promise 26: a kept result stays", this::resultsStay);
    }

    private static Groupbooks withoutTwo() {
        Groupbooks x = Scenes.circle();
        x.hold(1, 2, 40);
        return x;
    }

    private static Groupbooks parentAlone() {
        Groupbooks x = Scenes.circle();
        x.hold(0, 1, 20);
        return x;
    }

    // Two companies whose assets and debts are all odd, at a closing rate of one half.
    private static Groupbooks atHalfARate() {
        Groupbooks x = new Groupbooks();
        x.hold(0, 4, 51);
        x.setBooks(0, 3, 1, 1, 1);
        x.setRates(0, 50, 1000, 1000);
        x.setBooks(4, 5, 3, 2, 0);
        x.setRates(4, 50, 100, 100);
        return x;
    }

    private void assetsOfTheGroup() {
        check.same("of three", Scenes.circle().assets(), 5000 + 1100 + 300 - 45);
        check.same("of two", withoutTwo().assets(), 5000 + 1100 - 45);
        check.same("of the parent", parentAlone().assets(), 5000);
        Groupbooks x = atHalfARate();
        check.same("1.5 and 2.5, each rounded down", x.assets(), 3);
        x.claim(4, 0, 7);
        x.admit(0, 4, 4);
        check.same("below 0", x.assets(), -1);
    }

    private static Groupbooks wholeWith(int rate, int... parts) {
        Groupbooks x = Scenes.whole();
        for (int company = 0; company < 6; company++) {
            BooksTest.books(x, company, parts);
            x.setRates(company, rate, rate, rate);
        }
        return x;
    }

    private void farthestAssets() {
        check.same("new", new Groupbooks().assets(), 0);
        check.same("all companies, no assets", wholeWith(1000, 0, 9, -9, 0).assets(), 0);
        check.same("the most", wholeWith(1000, 1000000, 0, 1000000, 0).assets(), 60000000);
        check.same("at the least rate", wholeWith(1, 1000000, 0, 1000000, 0).assets(), 60000);
    }

    private void debtsOfTheGroup() {
        check.same("of three", Scenes.circle().debts(), 2000 + 440 + 100 - 45);
        check.same("of two", withoutTwo().debts(), 2000 + 440 - 45);
        check.same("of the parent", parentAlone().debts(), 2000);
        Groupbooks x = atHalfARate();
        check.same("0.5 and 1.5, each rounded down", x.debts(), 1);
        x.claim(0, 4, 4);
        x.admit(4, 0, 7);
        check.same("below 0", x.debts(), -3);
    }

    private void farthestDebts() {
        check.same("new", new Groupbooks().debts(), 0);
        check.same("all companies, no debts", wholeWith(1000, 9, 0, 9, 0).debts(), 0);
        check.same("the most", wholeWith(1000, 0, 1000000, -1000000, 0).debts(), 60000000);
        check.same("at the least rate", wholeWith(1, 0, 1000000, -1000000, 0).debts(), 60000);
    }

    private void minorityOutside() {
        check.same("in", Scenes.circle().minority(2), 68);
        check.same("out", withoutTwo().minority(2), 0);
        check.same("of all, out", parentAlone().minority(1), 0);
        Groupbooks x = new Groupbooks();
        x.setBooks(5, 100, 0, 100, 0);
        check.same("not held at all", x.minority(5), 0);
        x.hold(0, 5, 50);
        check.same("50 percent", x.minority(5), 0);
        x.hold(0, 5, 51);
        check.same("51 percent", x.minority(5), 49);
    }

    private void minorityOfTheParent() {
        check.same("in a circle", Scenes.circle().minority(0), 0);
        Groupbooks x = Scenes.fullBy(0);
        x.setBooks(0, 500, 0, 500, 0);
        check.same("wholly held", x.minority(0), 0);
        x.setBooks(0, 0, 500, -500, 0);
        check.same("below 0", x.minority(0), 0);
    }

    private void minorityRefuses() {
        Groupbooks x = new Groupbooks();
        x.hold(0, 5, 51);
        x.setBooks(5, 1000, 0, 1000, 0);
        check.same("the first", x.minority(0), 0);
        check.same("the last", x.minority(5), 490);
        check.refusesOutside(0, 5, (y, value) -> y.minority(value));
    }

    private void minorities() {
        check.same("660 times 16/79", Scenes.circle().minority(1), 133);
        check.same("200 times 27/79", Scenes.circle().minority(2), 68);
        Groupbooks x = new Groupbooks();
        x.hold(0, 1, 51);
        x.setBooks(1, 99, 0, 99, 0);
        check.same("48.51", x.minority(1), 48);
        x.setBooks(1, 0, 99, -99, 0);
        check.same("-48.51", x.minority(1), -49);
        x.setBooks(1, 0, 100, -100, 0);
        check.same("-49", x.minority(1), -49);
        x.setBooks(1, 0, 0, 0, 0);
        check.same("of nothing", x.minority(1), 0);
        x.setBooks(1, 0, 100, -100, 0);
        x.hold(0, 1, 100);
        check.same("held wholly", x.minority(1), 0);
        x.hold(0, 1, 99);
        check.same("held but for one", x.minority(1), -1);
        x.setRates(1, 150, 1, 1);
        check.same("of the translated", x.minority(1), -2);
    }

    // A chain of 51 percent each: the denominator is 100 to the fifth.
    private static Groupbooks longChain() {
        Groupbooks x = new Groupbooks();
        for (int company = 1; company < 6; company++) {
            x.hold(company - 1, company, 51);
        }
        x.setRates(5, 1000, 1000, 1000);
        return x;
    }

    private void widestMinorities() {
        Groupbooks x = longChain();
        check.same("the denominator", x.shareDenominator(5), 10000000000L);
        x.setBooks(5, 1000000, 0, 1000000, 0);
        check.same("the most", x.minority(5), 9654974);
        x.setBooks(5, 0, 1000000, -1000000, 0);
        check.same("the least", x.minority(5), -9654975);
    }

    private void equityOfTheGroup() {
        check.same("of three", Scenes.circle().equity(), 6355 - 2495 - 133 - 68);
        Groupbooks x = withoutTwo();
        check.same("of two", x.equity(), 6055 - 2395 - x.minority(1));
        check.same("of the parent", parentAlone().equity(), 3000);
        Groupbooks y = new Groupbooks();
        y.hold(0, 1, 51);
        y.setBooks(1, 0, 99, -99, 0);
        check.same("a minority share below 0", y.equity(), -99 + 49);
        y.claim(0, 1, 20);
        y.admit(1, 0, 20);
        check.same("eliminated on both sides", y.equity(), -50);
        y.acquire(0, 1, 1, 500);
        check.same("goodwill is no part", y.equity(), -99 + 48);
    }

    private void farthestEquities() {
        check.same("new", new Groupbooks().equity(), 0);
        check.same("the most", wholeWith(1000, 1000000, 0, 1000000, 0).equity(), 60000000);
        check.same("the least", wholeWith(1000, 0, 1000000, -1000000, 0).equity(), -60000000);
        check.same("nothing of much", wholeWith(1000, 1000000, 1000000, 0, 0).equity(), 0);
    }

    private void resultOfTheGroup() {
        check.same("of three", Scenes.circle().result(), 83 - 33);
        check.same("of two, 105 times 63/88", withoutTwo().result(), 75);
        check.same("of the parent", parentAlone().result(), 0);
        Groupbooks x = parentAlone();
        x.setBooks(0, 10, 0, 0, 10);
        x.setRates(0, 1, 250, 1);
        check.same("of the parent, wholly", x.result(), 25);
    }

    private void resultRoundsEach() {
        Groupbooks x = new Groupbooks();
        x.hold(0, 1, 75);
        x.hold(0, 2, 75);
        x.setBooks(0, 10, 0, 0, 10);
        x.setBooks(1, 2, 0, 0, 2);
        x.setBooks(2, 2, 0, 0, 2);
        check.same("10 and 1.5 and 1.5", x.result(), 12);
        x.setBooks(1, 0, 2, 0, -2);
        x.setBooks(2, 0, 2, 0, -2);
        check.same("10 and -1.5 and -1.5", x.result(), 6);
        x.setRates(1, 100, 300, 100);
        check.same("10 and -4.5 and -1.5", x.result(), 10 - 5 - 2);
        x.setRates(1, 100, 75, 100);
        check.same("-1.5 is -2, and of that -1.5", x.result(), 10 - 2 - 2);
    }

    private void farthestResults() {
        check.same("new", new Groupbooks().result(), 0);
        check.same("the most", wholeWith(1000, 1000000, 0, 0, 1000000).result(), 60000000);
        check.same("the least", wholeWith(1000, 0, 1000000, 0, -1000000).result(), -60000000);
    }

    private void widestResults() {
        Groupbooks x = longChain();
        x.setBooks(5, 1000000, 0, 0, 1000000);
        check.same("345025.2", x.result(), 345025);
        x.setBooks(5, 0, 1000000, 0, -1000000);
        check.same("-345025.2", x.result(), -345026);
    }

    private void closeCarries() {
        Groupbooks x = Scenes.circle();
        x.close();
        check.same("the result of 1", x.translatedResult(1), 0);
        check.same("600 at the historical rate", x.translatedEquity(1), 540);
        check.same("the reserve of 1", x.reserve(1), 120);
        check.same("a loss lessens the equity", x.translatedEquity(2), 200);
        check.same("no result, no change", x.translatedEquity(0), 3000);
        x.setBooks(0, 90, 0, 20, 70);
        x.setRates(0, 100, 1, 1000);
        x.close();
        check.same("90, though 70 were worth little", x.translatedEquity(0), 900);
        check.same("the result of the parent", x.translatedResult(0), 0);
        check.same("the result of the group", x.result(), 0);
        x.close();
        check.same("closed again", x.translatedEquity(1), 540);
    }

    private void closeOutside() {
        for (int company = 0; company < 6; company++) {
            Groupbooks alone = new Groupbooks();
            alone.setBooks(company, 100, 0, 70, 30);
            check.same("the group's result", alone.close(), company == 0 ? 30 : 0);
            check.same("each one's equity", alone.translatedEquity(company), 100);
            check.same("each one's result", alone.translatedResult(company), 0);
        }
        Groupbooks x = Scenes.circle();
        x.setBooks(5, 100, 0, 70, 30);
        x.close();
        check.same("its equity", x.translatedEquity(5), 100);
        check.same("its result", x.translatedResult(5), 0);
        x.hold(0, 5, 100);
        check.same("it brings in nothing later", x.result(), 0);
    }

    private void closeAnswers() {
        Groupbooks x = Scenes.circle();
        check.same("the first", x.close(), 50);
        check.same("an empty period", x.close(), 0);
        x.setBooks(0, 0, 7, 0, -7);
        check.same("a loss", x.close(), -7);
        check.same("kept", x.resultOf(0), 50);
        check.same("kept, empty", x.resultOf(1), 0);
        check.same("kept, a loss", x.resultOf(2), -7);
        check.same("the most", wholeWith(1000, 1000000, 0, 0, 1000000).close(), 60000000);
        check.same("the least", wholeWith(1000, 0, 1000000, 0, -1000000).close(), -60000000);
    }

    private void closeLeavesTheRest() {
        Groupbooks x = Scenes.circle();
        x.acquire(0, 4, 60, 77);
        int assets = x.assets();
        int debts = x.debts();
        int equity = x.equity();
        x.close();
        check.same("assets", x.assets(), assets);
        check.same("debts", x.debts(), debts);
        check.same("equity", x.equity(), equity);
        check.same("holdings", x.held(0, 4), 60);
        check.same("goodwill", x.goodwill(4), 77);
        check.same("balances", x.difference(0, 1), 5);
        check.same("eliminated", x.eliminated(), 45);
        check.same("net value", x.netValue(1), 660);
        check.same("minority share", x.minority(1), 133);
        check.same("group", x.group(), 23);
        x.setBooks(1, 1000, 400, 500, 100);
        check.same("rates", x.translatedResult(1), 105);
    }

    private void thirteenthClosing() {
        Groupbooks x = Scenes.closed(MOST_PERIODS - 1);
        x.setBooks(0, 9, 0, 0, 9);
        check.same("the twelfth", x.close(), 9);
        check.refusesState(() -> Scenes.closed(MOST_PERIODS), y -> y.close());
        check.refusesState(GroupTest::closedWithResult, y -> y.close());
        Groupbooks z = closedWithResult();
        check.note(Check.thrownBy(z, y -> y.close()) == IllegalStateException.class, "refused");
        check.note(Check.thrownBy(z, y -> y.close()) == IllegalStateException.class, "again");
        check.same("the result is not carried", z.translatedResult(0), 10);
        check.same("the last is kept", z.resultOf(11), 111);
    }

    private static Groupbooks closedWithResult() {
        Groupbooks x = Scenes.closed(MOST_PERIODS);
        x.setBooks(0, 10, 0, 0, 10);
        return x;
    }

    private void periodsClosed() {
        for (int number = 0; number <= MOST_PERIODS; number++) {
            int closed = number;
            check.refusesArgument(() -> Scenes.closed(closed), x -> x.resultOf(closed));
            check.refusesArgument(() -> Scenes.closed(closed), x -> x.resultOf(-1));
            Groupbooks x = Scenes.closed(closed);
            for (int period = 0; period < closed; period++) {
                check.same("a closed one", x.resultOf(period), period == 0 ? 150 : 100 + period);
            }
        }
    }

    private void periodRange() {
        check.same("the first", Scenes.closed(MOST_PERIODS).resultOf(0), 150);
        check.same("the last", Scenes.closed(MOST_PERIODS).resultOf(11), 111);
        check.refusesOutside(0, 11, (x, value) -> x.resultOf(value));
        check.refusesArgument(() -> Scenes.closed(MOST_PERIODS), x -> x.resultOf(12));
        check.refusesArgument(() -> Scenes.closed(MOST_PERIODS), x -> x.resultOf(-1));
        check.refusesArgument(() -> Scenes.closed(1), x -> x.resultOf(11));
        check.refusesArgument(() -> Scenes.closed(1), x -> x.resultOf(12));
        check.refusesArgument(() -> Scenes.closed(MOST_PERIODS),
            x -> x.resultOf(Integer.MAX_VALUE));
    }

    private void resultsStay() {
        Groupbooks x = Scenes.circle();
        x.close();
        x.hold(0, 1, 0);
        x.setBooks(1, 900, 0, 0, 900);
        x.setRates(1, 1000, 1000, 1000);
        check.same("holdings, books and rates change", x.resultOf(0), 50);
        x.close();
        check.same("another one is closed", x.resultOf(0), 50);
    }
}
