// Promises 20 to 26: the accounts of the group and their closings.
public final class GroupTest {
    private final Check check;

    GroupTest(Check check) {
        this.check = check;
    }

    void run() {
        accountsOfTheDocument();
        companiesOutsideCountNothing();
        assetsAndDebtsAreTranslated();
        minorityIsRoundedDown();
        minorityOfTheWidestShare();
        minorityRefuses();
        resultRoundsEach();
        resultOfTheMost();
        closeCarriesTheResults();
        closeKeepsTheRest();
        closeTwelveTimes();
        resultOfRefuses();
    }

    // Shares of 63/79 and 52/79, net values of 660 and 200.
    private Groupbooks circle() {
        Groupbooks x = new Groupbooks();
        x.hold(0, 1, 60);
        x.hold(1, 2, 70);
        x.hold(2, 1, 30);
        x.hold(0, 2, 10);
        x.setBooks(0, 5000, 2000, 3000, 0);
        x.setBooks(1, 1000, 400, 500, 100);
        x.setBooks(2, 300, 100, 250, -50);
        x.setRates(1, 110, 105, 90);
        x.claim(0, 1, 50);
        x.admit(1, 0, 45);
        return x;
    }

    private void accountsOfTheDocument() {
        Groupbooks x = circle();
        check.same("20: assets", x.assets(), 5000 + 1100 + 300 - 45);
        check.same("21: debts", x.debts(), 2000 + 440 + 100 - 45);
        check.same("22: minority of 1", x.minority(1), 133);
        check.same("22: minority of 2", x.minority(2), 68);
        check.same("22: minority of the parent", x.minority(0), 0);
        check.same("23: equity", x.equity(), 6355 - 2495 - 133 - 68);
        check.same("24: result", x.result(), 83 - 33);
    }

    private void companiesOutsideCountNothing() {
        Groupbooks x = circle();
        x.hold(1, 2, 40);
        check.same("8: out", x.group(), 3);
        check.same("20: out", x.assets(), 5000 + 1100 - 45);
        check.same("21: out", x.debts(), 2000 + 440 - 45);
        check.same("22: out", x.minority(2), 0);
        check.same("24: out", x.result(), x.translatedResult(1) * 63 / 88);
        check.same("23: out", x.equity(), 6055 - 2395 - x.minority(1));
        x.hold(0, 1, 10);
        check.same("20: the parent alone", x.assets(), 5000);
        check.same("21: the parent alone", x.debts(), 2000);
        check.same("23: the parent alone", x.equity(), 3000);
        check.same("24: the parent alone", x.result(), 0);
        check.same("22: none of 1", x.minority(1), 0);
    }

    private void assetsAndDebtsAreTranslated() {
        Groupbooks x = new Groupbooks();
        x.setBooks(0, 3, 1, 1, 1);
        x.setRates(0, 50, 1000, 1000);
        x.hold(0, 4, 51);
        x.setBooks(4, 5, 3, 2, 0);
        x.setRates(4, 50, 100, 100);
        check.same("20: 1.5 and 2.5", x.assets(), 3);
        check.same("21: 0.5 and 1.5", x.debts(), 1);
    }

    private void minorityIsRoundedDown() {
        Groupbooks x = new Groupbooks();
        x.hold(0, 1, 51);
        x.setBooks(1, 99, 0, 99, 0);
        check.same("22: 48.51", x.minority(1), 48);
        x.setBooks(1, 0, 99, -99, 0);
        check.same("22: -48.51", x.minority(1), -49);
        check.same("23: with it", x.equity(), -99 + 49);
        x.setBooks(1, 0, 100, -100, 0);
        check.same("22: -49", x.minority(1), -49);
        x.hold(0, 1, 100);
        check.same("22: none", x.minority(1), 0);
        x.setBooks(0, 500, 0, 500, 0);
        check.same("22: of the parent", x.minority(0), 0);
        x.hold(1, 0, 30);
        check.same("22: of the parent, held", x.minority(0), 0);
    }

    // The share's denominator is close to 100 to the fifth and the net value is the most.
    private void minorityOfTheWidestShare() {
        Groupbooks x = new Groupbooks();
        x.hold(0, 1, 51);
        x.hold(1, 2, 51);
        x.hold(2, 3, 51);
        x.hold(3, 4, 51);
        x.hold(4, 5, 51);
        x.setBooks(5, 1000000, 0, 1000000, 0);
        x.setRates(5, 1000, 100, 100);
        check.same("6: 100 to the fifth", x.shareDenominator(5), 10000000000L);
        check.same("22: wide", x.minority(5), 9654974);
        x.setBooks(5, 0, 1000000, -1000000, 0);
        check.same("22: wide, below 0", x.minority(5), -9654975);
    }

    private void minorityRefuses() {
        Groupbooks x = circle();
        check.refusesArgument("22: -1", x, () -> x.minority(-1));
        check.refusesArgument("22: 6", x, () -> x.minority(6));
    }

    private void resultRoundsEach() {
        Groupbooks x = new Groupbooks();
        x.hold(0, 1, 75);
        x.hold(0, 2, 75);
        x.setBooks(0, 10, 0, 0, 10);
        x.setBooks(1, 2, 0, 0, 2);
        x.setBooks(2, 2, 0, 0, 2);
        check.same("24: 10 and 1.5 and 1.5", x.result(), 12);
        x.setBooks(1, 0, 2, 0, -2);
        x.setBooks(2, 0, 2, 0, -2);
        check.same("24: 10 and -1.5 and -1.5", x.result(), 6);
        x.setRates(1, 100, 300, 100);
        check.same("24: at the average rate", x.result(), 10 - 5 - 2);
    }

    private void resultOfTheMost() {
        Groupbooks x = new Groupbooks();
        for (int company = 0; company < 6; company++) {
            if (company > 0) {
                x.hold(0, company, 100);
            }
            x.setBooks(company, 1000000, 0, 0, 1000000);
            x.setRates(company, 1000, 1000, 1000);
        }
        check.same("24: the most", x.result(), 60000000);
        check.same("20: the most", x.assets(), 60000000);
        check.same("23: the most", x.equity(), 60000000);
    }

    private void closeCarriesTheResults() {
        Groupbooks x = circle();
        x.setBooks(5, 100, 0, 70, 30);
        check.same("25: answers the result", x.close(), 50);
        check.same("26: kept", x.resultOf(0), 50);
        check.same("25: none is left", x.result(), 0);
        check.same("25: result of 1", x.translatedResult(1), 0);
        check.same("25: equity of 1", x.translatedEquity(1), 540);
        check.same("25: reserve of 1", x.reserve(1), 120);
        check.same("25: equity of 2", x.translatedEquity(2), 200);
        check.same("25: outside the group too", x.translatedEquity(5), 100);
        check.same("25: result outside", x.translatedResult(5), 0);
    }

    private void closeKeepsTheRest() {
        Groupbooks x = circle();
        x.acquire(0, 4, 60, 77);
        int assets = x.assets();
        int debts = x.debts();
        int equity = x.equity();
        x.close();
        check.same("25: assets stay", x.assets(), assets);
        check.same("25: debts stay", x.debts(), debts);
        check.same("25: equity stays", x.equity(), equity);
        check.same("25: holdings stay", x.held(0, 4), 60);
        check.same("25: goodwill stays", x.goodwill(4), 77);
        check.same("25: balances stay", x.difference(0, 1), 5);
        check.same("25: net value stays", x.netValue(1), 660);
        x.hold(0, 1, 0);
        check.same("26: kept when holdings change", x.resultOf(0), 50);
    }

    private void closeTwelveTimes() {
        Groupbooks x = new Groupbooks();
        for (int period = 0; period < 12; period++) {
            int due = 100 - 30 * period;
            x.setBooks(0, 1000, 0, 1000 - due, due);
            check.same("25: period " + period, x.close(), due);
        }
        for (int period = 0; period < 12; period++) {
            check.same("26: period " + period, x.resultOf(period), 100 - 30 * period);
        }
        x.setBooks(0, 10, 0, 0, 10);
        check.refusesState("25: the 13th", x, () -> x.close());
        check.same("25: books as they were", x.translatedResult(0), 10);
        check.refusesArgument("26: 12", x, () -> x.resultOf(12));
    }

    private void resultOfRefuses() {
        Groupbooks x = circle();
        check.refusesArgument("26: none closed", x, () -> x.resultOf(0));
        x.close();
        x.close();
        check.same("26: the second", x.resultOf(1), 0);
        check.refusesArgument("26: not yet", x, () -> x.resultOf(2));
        check.refusesArgument("26: 11", x, () -> x.resultOf(11));
        check.refusesArgument("26: 12", x, () -> x.resultOf(12));
        check.refusesArgument("26: -1", x, () -> x.resultOf(-1));
    }
}
