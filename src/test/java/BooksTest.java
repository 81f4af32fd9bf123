// Promises 10 to 15: the books and their translation.
public final class BooksTest {
    private final Check check;

    BooksTest(Check check) {
        this.check = check;
    }

    void run() {
        setBooksSets();
        setBooksTakesTheEdges();
        setBooksRefuses();
        setRatesSets();
        setRatesRefuses();
        translationIsRoundedDown();
        netValueRoundsEach();
        reserveIsTheRest();
        questionsRefuseArguments();
    }

    private void setBooksSets() {
        Groupbooks x = new Groupbooks();
        x.setBooks(5, 1000, 400, 500, 100);
        check.same("10: net value", x.netValue(5), 600);
        check.same("10: equity", x.translatedEquity(5), 500);
        check.same("10: result", x.translatedResult(5), 100);
        check.same("10: another's", x.netValue(4), 0);
        x.setBooks(5, 10, 40, 50, -80);
        check.same("10: again, net value", x.netValue(5), -30);
        check.same("10: again, equity", x.translatedEquity(5), 50);
        check.same("10: again, result", x.translatedResult(5), -80);
        x.setBooks(0, 70, 30, 50, -10);
        check.same("10: assets of the parent", x.assets(), 70);
        check.same("10: debts of the parent", x.debts(), 30);
    }

    private void setBooksTakesTheEdges() {
        Groupbooks x = new Groupbooks();
        x.setBooks(0, 1000000, 0, 1000000, 0);
        check.same("10: most assets", x.assets(), 1000000);
        x.setBooks(0, 0, 1000000, -1000000, 0);
        check.same("10: most debts", x.debts(), 1000000);
        check.same("10: least equity", x.translatedEquity(0), -1000000);
        x.setBooks(0, 1000000, 1000000, 1000000, -1000000);
        check.same("10: least result", x.translatedResult(0), -1000000);
        x.setBooks(0, 1000000, 1000000, -1000000, 1000000);
        check.same("10: most result", x.translatedResult(0), 1000000);
        x.setBooks(0, 0, 0, 0, 0);
        check.same("10: empty", x.netValue(0), 0);
    }

    private void setBooksRefuses() {
        Groupbooks x = new Groupbooks();
        x.setBooks(0, 1000, 400, 500, 100);
        refusesBooks(x, -1, 0, 0, 0, 0);
        refusesBooks(x, 6, 0, 0, 0, 0);
        refusesBooks(x, 0, -1, 0, -1, 0);
        refusesBooks(x, 0, 1000001, 0, 1000000, 1);
        refusesBooks(x, 0, 0, -1, 1, 0);
        refusesBooks(x, 0, 1000000, 1000001, -1, 0);
        refusesBooks(x, 0, 0, 1000000, -1000001, 1);
        refusesBooks(x, 0, 1000000, 0, 1000001, -1);
        refusesBooks(x, 0, 0, 1000000, 1, -1000001);
        refusesBooks(x, 0, 1000000, 0, -1, 1000001);
        refusesBooks(x, 0, 1, 0, 0, 0);
        refusesBooks(x, 0, 1000, 400, 500, 99);
        refusesBooks(x, 0, 1000, 400, 500, 101);
        refusesBooks(x, 0, 0, Integer.MAX_VALUE, Integer.MAX_VALUE, 2);
        refusesBooks(x, 0, 0, 0, Integer.MIN_VALUE, Integer.MIN_VALUE);
    }

    private void refusesBooks(Groupbooks x, int company, int assets, int debts, int equity,
            int result) {
        check.refusesArgument("10: " + assets + " " + debts + " " + equity + " " + result, x,
            () -> {
                x.setBooks(company, assets, debts, equity, result);
                return 0;
            });
    }

    private void setRatesSets() {
        Groupbooks x = new Groupbooks();
        x.setBooks(2, 1000, 400, 500, 100);
        x.setRates(2, 110, 105, 90);
        check.same("11: closing", x.netValue(2), 660);
        check.same("11: average", x.translatedResult(2), 105);
        check.same("11: historical", x.translatedEquity(2), 450);
        x.setRates(2, 1, 1000, 1);
        check.same("11: least closing", x.netValue(2), 6);
        check.same("11: most average", x.translatedResult(2), 1000);
        check.same("11: least historical", x.translatedEquity(2), 5);
        x.setRates(2, 1000, 1, 1000);
        check.same("11: most closing", x.netValue(2), 6000);
        check.same("11: least average", x.translatedResult(2), 1);
        check.same("11: most historical", x.translatedEquity(2), 5000);
        x.setBooks(3, 1000, 400, 500, 100);
        check.same("11: another's", x.netValue(3), 600);
        x.setBooks(2, 10, 0, 0, 10);
        check.same("11: setBooks leaves the rates", x.netValue(2), 100);
    }

    private void setRatesRefuses() {
        Groupbooks x = new Groupbooks();
        x.setBooks(0, 1000, 400, 500, 100);
        refusesRates(x, -1, 1, 1, 1);
        refusesRates(x, 6, 1, 1, 1);
        refusesRates(x, 0, 0, 1, 1);
        refusesRates(x, 0, 1, 0, 1);
        refusesRates(x, 0, 1, 1, 0);
        refusesRates(x, 0, 1001, 1, 1);
        refusesRates(x, 0, 1, 1001, 1);
        refusesRates(x, 0, 1, 1, 1001);
        refusesRates(x, 0, -100, -100, -100);
    }

    private void refusesRates(Groupbooks x, int company, int closing, int average,
            int historical) {
        check.refusesArgument("11: " + company + " " + closing + " " + average, x, () -> {
            x.setRates(company, closing, average, historical);
            return 0;
        });
    }

    private void translationIsRoundedDown() {
        Groupbooks x = new Groupbooks();
        x.setBooks(1, 0, 0, 33, -33);
        x.setRates(1, 50, 50, 50);
        check.same("13: 16.5", x.translatedEquity(1), 16);
        check.same("14: -16.5", x.translatedResult(1), -17);
        x.setBooks(1, 0, 0, -33, 33);
        check.same("13: -16.5", x.translatedEquity(1), -17);
        check.same("14: 16.5", x.translatedResult(1), 16);
        x.setBooks(1, 0, 0, -32, 32);
        check.same("13: -16", x.translatedEquity(1), -16);
        x.setBooks(1, 1000000, 1000000, 1000000, -1000000);
        x.setRates(1, 1000, 1000, 1000);
        check.same("13: the most", x.translatedEquity(1), 10000000);
        check.same("14: the least", x.translatedResult(1), -10000000);
    }

    private void netValueRoundsEach() {
        Groupbooks x = new Groupbooks();
        x.setBooks(1, 5, 2, 3, 0);
        x.setRates(1, 50, 100, 100);
        check.same("12: 2.5 less 1", x.netValue(1), 1);
        x.setBooks(1, 4, 1, 3, 0);
        check.same("12: 2 less 0.5", x.netValue(1), 2);
        x.setBooks(1, 0, 1000000, -1000000, 0);
        x.setRates(1, 1000, 100, 100);
        check.same("12: the least", x.netValue(1), -10000000);
    }

    private void reserveIsTheRest() {
        Groupbooks x = new Groupbooks();
        x.setBooks(1, 1000, 400, 500, 100);
        check.same("15: at par", x.reserve(1), 0);
        x.setRates(1, 110, 105, 90);
        check.same("15: 660 less 450 and 105", x.reserve(1), 105);
        x.setRates(1, 90, 105, 110);
        check.same("15: 540 less 550 and 105", x.reserve(1), -115);
        x.setBooks(1, 1000000, 0, 0, 1000000);
        x.setRates(1, 1, 1000, 1);
        check.same("15: far below", x.reserve(1), 10000 - 10000000);
        x.setBooks(1, 33, 11, 11, 11);
        x.setRates(1, 50, 50, 50);
        check.same("15: of rounded parts", x.reserve(1), 16 - 5 - 5 - 5);
    }

    private void questionsRefuseArguments() {
        Groupbooks x = new Groupbooks();
        check.refusesArgument("12: -1", x, () -> x.netValue(-1));
        check.refusesArgument("12: 6", x, () -> x.netValue(6));
        check.refusesArgument("13: -1", x, () -> x.translatedEquity(-1));
        check.refusesArgument("13: 6", x, () -> x.translatedEquity(6));
        check.refusesArgument("14: -1", x, () -> x.translatedResult(-1));
        check.refusesArgument("14: 6", x, () -> x.translatedResult(6));
        check.refusesArgument("15: -1", x, () -> x.reserve(-1));
        check.refusesArgument("15: 6", x, () -> x.reserve(6));
    }
}
