// The head of the document and the sentences of 'Terms' that belong to no one part.
public final class TermsTest {
    private static final int MOST_CALLS = 512;

    private final Check check;

    TermsTest(Check check) {
        this.check = check;
    }

    void run() {
        check.test("Head: 'used for at most 512 calls', a telling call is the 512th",
            this::lastCallTells);
        check.test("Head: 'used for at most 512 calls', an asking call is the 512th",
            this::lastCallAsks);
        check.test("Head: 'used for at most 512 calls', a refused call is the 512th",
            this::lastCallIsRefused);
        check.test("Head: 'used for at most 512 calls', the first call", this::firstCall);
        check.test("Terms: 'can be asked at any time', asking changes nothing",
            this::askingChangesNothing);
        check.test("Terms: 'follow from what has been told so far', in any order",
            this::orderDoesNotMatter);
        check.test("Terms: 'There are 6 companies, 0 to 5', all of them apart",
            this::sixCompanies);
        check.test("Terms: 'company 0 is the parent'", this::companyZeroIsTheParent);
        check.test("Terms: 'rounded down to the lesser number', translations",
            this::translationsRoundDown);
        check.test("Terms: 'rounded down to the lesser number', goodwill", this::goodwillRounds);
        check.test("Terms: 'rounded down to the lesser number', minority shares",
            this::minoritiesRound);
        check.test("Terms: 'rounded down to the lesser number', the result",
            this::resultRounds);
        check.test("Terms: 'rounded down to the lesser number', rounds", this::roundsRound);
        check.test("Terms: 'where they are not exact', exact below 0", this::exactBelowZero);
        check.test("Terms: 'if both apply, IllegalArgumentException', hold", this::bothInHold);
        check.test("Terms: 'if both apply, IllegalArgumentException', acquire",
            this::bothInAcquire);
        check.test("Terms: 'A call that throws changes nothing', many in a row",
            this::manyRefused);
    }

    // All calls but the last, of which each fourth is refused; the circle is as it was at last.
    private static Groupbooks beforeTheLastCall() {
        Groupbooks x = Scenes.circle();
        for (int call = 10; call < MOST_CALLS - 1; call++) {
            switch (call % 4) {
                case 0:
                    x.shareByRounds(1, 200);
                    break;
                case 1:
                    Check.thrownBy(x, y -> y.hold(2, 1, 71));
                    break;
                case 2:
                    x.claim(4, 5, call);
                    break;
                default:
                    x.hold(0, 1, 60);
            }
        }
        return x;
    }

    private void lastCallTells() {
        check.same("hold", beforeTheLastCall().hold(2, 1, 40), 30);
        check.same("acquire", beforeTheLastCall().acquire(2, 1, 10, 1), 40);
        check.same("claim", beforeTheLastCall().claim(0, 1, 1), 50);
        check.same("admit", beforeTheLastCall().admit(1, 0, 1), 45);
        check.same("close", beforeTheLastCall().close(), 50);
        beforeTheLastCall().setBooks(0, 1, 1, 0, 0);
        beforeTheLastCall().setRates(0, 1, 1, 1);
    }

    private void lastCallAsks() {
        check.same("held", beforeTheLastCall().held(2, 1), 30);
        check.same("shareNumerator", beforeTheLastCall().shareNumerator(1), 63);
        check.same("shareDenominator", beforeTheLastCall().shareDenominator(1), 79);
        check.same("shareByRounds", beforeTheLastCall().shareByRounds(1, 1), 600000);
        check.same("group", beforeTheLastCall().group(), 7);
        check.same("goodwill", beforeTheLastCall().goodwill(1), 0);
        check.same("netValue", beforeTheLastCall().netValue(1), 660);
        check.same("translatedEquity", beforeTheLastCall().translatedEquity(1), 450);
        check.same("translatedResult", beforeTheLastCall().translatedResult(1), 105);
        check.same("reserve", beforeTheLastCall().reserve(1), 105);
        check.same("difference", beforeTheLastCall().difference(0, 1), 5);
        check.same("eliminated", beforeTheLastCall().eliminated(), 45);
        check.same("assets", beforeTheLastCall().assets(), 6355);
        check.same("debts", beforeTheLastCall().debts(), 2495);
        check.same("minority", beforeTheLastCall().minority(1), 133);
        check.same("equity", beforeTheLastCall().equity(), 3659);
        check.same("result", beforeTheLastCall().result(), 50);
        Groupbooks closedOnce = new Groupbooks();
        closedOnce.setBooks(0, 7, 0, 0, 7);
        closedOnce.close();
        for (int call = 2; call < MOST_CALLS - 1; call++) {
            closedOnce.equity();
        }
        check.same("resultOf", closedOnce.resultOf(0), 7);
    }

    private void lastCallIsRefused() {
        check.note(Check.thrownBy(beforeTheLastCall(), x -> x.hold(2, 1, 101))
            == IllegalArgumentException.class, "an argument");
        check.note(Check.thrownBy(beforeTheLastCall(), x -> x.hold(2, 1, 41))
            == IllegalStateException.class, "a state");
    }

    private void firstCall() {
        check.same("hold", new Groupbooks().hold(0, 1, 100), 0);
        check.same("close", new Groupbooks().close(), 0);
        check.note(Check.thrownBy(new Groupbooks(), x -> x.resultOf(0))
            == IllegalArgumentException.class, "resultOf");
    }

    private void askingChangesNothing() {
        Groupbooks x = Scenes.busy();
        String first = Snapshot.of(x);
        check.note(first.equals(Snapshot.of(x)), "asked again");
        Groupbooks y = Scenes.busy();
        Snapshot.of(y);
        y.shareByRounds(5, 200);
        check.note(Probe.of(y).equals(Probe.of(Scenes.busy())), "told on");
    }

    private void orderDoesNotMatter() {
        Groupbooks y = new Groupbooks();
        y.admit(1, 0, 45);
        y.setRates(1, 110, 105, 90);
        y.setBooks(2, 300, 100, 250, -50);
        y.setBooks(1, 1000, 400, 500, 100);
        y.hold(2, 1, 30);
        y.hold(0, 2, 10);
        y.claim(0, 1, 50);
        y.hold(1, 2, 70);
        y.setBooks(0, 5000, 2000, 3000, 0);
        y.hold(0, 1, 60);
        check.note(Probe.of(y).equals(Probe.of(Scenes.circle())), "told in another order");
    }

    private void sixCompanies() {
        Groupbooks x = new Groupbooks();
        for (int one = 0; one < 6; one++) {
            x.setBooks(one, 1000 + one, 100 * one, 900 - 100 * one, 100 + one);
            x.setRates(one, 100, 100, 100 * one + 100);
            for (int other = 0; other < 6; other++) {
                if (one != other) {
                    x.hold(one, other, 1 + one + 2 * other);
                    x.claim(one, other, 100 * one + other);
                }
            }
        }
        for (int one = 0; one < 6; one++) {
            check.same("net value of " + one, x.netValue(one), 1000 + one - 100 * one);
            check.same("equity", x.translatedEquity(one), (900 - 100 * one) * (one + 1));
            check.same("result of " + one, x.translatedResult(one), 100 + one);
            for (int other = 0; other < 6; other++) {
                if (one != other) {
                    check.same("held", x.held(one, other), 1 + one + 2 * other);
                    check.same("difference", x.difference(one, other), 100 * one + other);
                }
            }
        }
    }

    private void companyZeroIsTheParent() {
        Groupbooks x = new Groupbooks();
        x.hold(0, 5, 51);
        x.hold(5, 0, 100);
        check.same("group", x.group(), 1 + 32);
        check.same("its share", x.shareNumerator(0), 1);
        check.same("another's share", x.shareNumerator(5), 51);
        check.same("before all rounds", x.shareByRounds(0, 0), 1000000);
    }

    private void translationsRoundDown() {
        Groupbooks x = new Groupbooks();
        x.setRates(1, 1, 1, 1);
        x.setBooks(1, 0, 0, 1, -1);
        check.same("0.01", x.translatedEquity(1), 0);
        check.same("-0.01", x.translatedResult(1), -1);
        x.setBooks(1, 0, 0, -99, 99);
        check.same("-0.99", x.translatedEquity(1), -1);
        check.same("0.99", x.translatedResult(1), 0);
        x.setBooks(1, 0, 0, 101, -101);
        check.same("1.01", x.translatedEquity(1), 1);
        check.same("-1.01", x.translatedResult(1), -2);
        x.setBooks(1, 99, 199, -100, 0);
        check.same("0.99 less 1.99", x.netValue(1), -1);
        x.setBooks(1, 199, 99, 100, 0);
        check.same("1.99 less 0.99", x.netValue(1), 1);
    }

    private void goodwillRounds() {
        Groupbooks x = new Groupbooks();
        x.setBooks(1, 0, 1, -1, 0);
        x.acquire(0, 1, 1, 0);
        check.same("0 less -0.01", x.goodwill(1), 1);
        x.setBooks(2, 0, 101, -101, 0);
        x.acquire(0, 2, 1, 0);
        check.same("0 less -1.01", x.goodwill(2), 2);
        x.setBooks(3, 199, 0, 199, 0);
        x.acquire(0, 3, 1, 0);
        check.same("0 less 1.99", x.goodwill(3), -1);
        x.setBooks(4, 99, 0, 99, 0);
        x.acquire(0, 4, 1, 0);
        check.same("0 less 0.99", x.goodwill(4), 0);
    }

    private void minoritiesRound() {
        Groupbooks x = new Groupbooks();
        x.hold(0, 1, 99);
        x.setBooks(1, 1, 0, 1, 0);
        check.same("0.01", x.minority(1), 0);
        x.setBooks(1, 199, 0, 199, 0);
        check.same("1.99", x.minority(1), 1);
        x.setBooks(1, 0, 1, -1, 0);
        check.same("-0.01", x.minority(1), -1);
        x.setBooks(1, 0, 101, -101, 0);
        check.same("-1.01", x.minority(1), -2);
    }

    private void resultRounds() {
        Groupbooks x = new Groupbooks();
        x.hold(0, 1, 51);
        x.setBooks(1, 1, 0, 0, 1);
        check.same("0.51", x.result(), 0);
        x.setBooks(1, 0, 1, 0, -1);
        check.same("-0.51", x.result(), -1);
        x.setBooks(1, 99, 0, 0, 99);
        check.same("50.49", x.result(), 50);
        x.setBooks(1, 0, 99, 0, -99);
        check.same("-50.49", x.result(), -51);
    }

    private void roundsRound() {
        Groupbooks x = new Groupbooks();
        x.hold(0, 1, 1);
        x.hold(1, 2, 1);
        x.hold(2, 3, 1);
        x.hold(3, 4, 99);
        x.hold(3, 5, 100);
        check.same("one", x.shareByRounds(3, 4), 1);
        check.same("0.99", x.shareByRounds(4, 4), 0);
        check.same("1 wholly", x.shareByRounds(5, 4), 1);
    }

    private void exactBelowZero() {
        Groupbooks x = new Groupbooks();
        x.hold(0, 1, 51);
        x.setBooks(1, 0, 100, 0, -100);
        x.setRates(1, 1, 100, 1);
        check.same("net value", x.netValue(1), -1);
        x.setRates(1, 100, 1, 100);
        check.same("result", x.translatedResult(1), -1);
        x.setRates(1, 100, 100, 100);
        check.same("minority", x.minority(1), -49);
        check.same("result of the group", x.result(), -51);
        x.setBooks(1, 0, 100, -100, 0);
        x.setRates(1, 100, 100, 1);
        check.same("equity", x.translatedEquity(1), -1);
        x.acquire(0, 1, 1, 0);
        check.same("goodwill", x.goodwill(1), 1);
    }

    private void bothInHold() {
        check.refusesArgument(() -> Scenes.fullBy(1), x -> x.hold(0, 1, 101));
        check.refusesArgument(() -> Scenes.fullBy(1), x -> x.hold(6, 1, 21));
        check.refusesArgument(() -> Scenes.fullBy(1), x -> x.hold(-1, 1, 21));
        check.refusesArgument(() -> Scenes.fullBy(1), x -> x.hold(1, 1, 21));
        check.refusesArgument(() -> Scenes.fullBy(1), x -> x.hold(1, 1, 1));
        check.refusesArgument(() -> Scenes.chain(1, 2), x -> x.hold(2, 1, 101));
        check.refusesArgument(() -> Scenes.chain(1, 5), x -> x.hold(5, 1, Integer.MAX_VALUE));
    }

    private void bothInAcquire() {
        check.refusesArgument(() -> Scenes.fullBy(1), x -> x.acquire(0, 1, 1, -1));
        check.refusesArgument(() -> Scenes.fullBy(1), x -> x.acquire(0, 1, 1, 1000001));
        check.refusesArgument(() -> Scenes.fullBy(1), x -> x.acquire(0, 1, 101, 0));
        check.refusesArgument(() -> Scenes.fullBy(1), x -> x.acquire(1, 1, 1, 0));
        check.refusesArgument(() -> Scenes.fullBy(1), x -> x.acquire(6, 1, 1, 0));
        check.refusesArgument(() -> Scenes.chain(1, 2), x -> x.acquire(2, 1, 100, -1));
        check.refusesArgument(() -> Scenes.chain(1, 2), x -> x.acquire(2, 1, 100, 1000001));
        check.refusesArgument(() -> Scenes.chain(1, 2),
            x -> x.acquire(2, 1, Integer.MAX_VALUE, 0));
    }

    private void manyRefused() {
        Groupbooks x = Scenes.busy();
        for (int value = -1; value <= 1000001; value += 1000002) {
            int wrong = value;
            Check.Call[] calls = {
                y -> y.hold(wrong, 1, 1), y -> y.hold(0, wrong, 1), y -> y.hold(0, 1, wrong),
                y -> y.hold(0, 1, 100), y -> y.acquire(wrong, 1, 1, 1),
                y -> y.acquire(0, wrong, 1, 1), y -> y.acquire(0, 5, wrong, 1),
                y -> y.acquire(0, 5, 1, wrong), y -> y.acquire(0, 1, 11, 7),
                y -> y.held(wrong, 0), y -> y.shareNumerator(wrong),
                y -> y.shareDenominator(wrong), y -> y.shareByRounds(0, wrong),
                y -> y.goodwill(wrong), y -> y.netValue(wrong), y -> y.translatedEquity(wrong),
                y -> y.translatedResult(wrong), y -> y.reserve(wrong), y -> y.claim(0, 1, wrong),
                y -> y.admit(0, 1, wrong), y -> y.difference(0, wrong), y -> y.minority(wrong),
                y -> y.resultOf(wrong), y -> BooksTest.books(y, 0, 0, 0, 0, wrong),
                y -> BooksTest.rates(y, 0, 1, 1, wrong),
            };
            for (Check.Call call : calls) {
                check.note(Check.thrownBy(x, call) != null, "a call is refused");
            }
        }
        check.note(Probe.of(x).equals(Probe.of(Scenes.busy())), "something changed");
    }
}
