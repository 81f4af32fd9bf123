import java.math.BigInteger;

// Promises 1 and 4 to 9, and what 'Terms' says of them: what follows from the holdings.
public final class HoldingsTest {
    private final Check check;

    HoldingsTest(Check check) {
        this.check = check;
    }

    void run() {
        check.test("Promise 1: 'No holdings'", this::noHoldings);
        check.test("Promise 1: 'empty books'", this::emptyBooks);
        check.test("Promise 1: 'nothing is closed'", this::nothingIsClosed);
        check.test("Promise 1: objects are apart", this::objectsAreApart);
        check.test("Promise 4: 'Returns what a company holds of another one'", this::heldAnswers);
        check.test("Promise 4: 'owner: 0 to 5', 'company: 0 to 5'", this::heldRefuses);
        check.test("Promise 5: 'the numerator', of circular holdings", this::circularShares);
        check.test("Promise 5: 'in lowest terms'", this::lowestTerms);
        check.test("Promise 5: 'company: 0 to 5'", this::numeratorRefuses);
        check.test("Promise 6: 'in lowest terms, above 0', the widest", this::widestShares);
        check.test("Promise 6: 'above 0', the share of nothing", this::emptyShares);
        check.test("Promise 6: 'company: 0 to 5'", this::denominatorRefuses);
        check.test("Terms: 'The effective share of the parent is 1'", this::shareOfTheParent);
        check.test("Terms: 'the sum, over all companies that hold some of it'",
            this::sharesAreSums);
        check.test("Promise 7: 'Before the first round'", this::noRounds);
        check.test("Promise 7: 'what the holder had before the round'", this::roundsAtOnce);
        check.test("Promise 7: 'each company but the parent'", this::roundsOfTheParent);
        check.test("Promise 7: 'the sum is divided, not each part'", this::roundsDivideTheSum);
        check.test("Promise 7: 'rounds: 0 to 200'", this::mostRounds);
        check.test("Promise 7: 'company: 0 to 5'", this::roundsRefuse);
        check.test("Promise 8: 'bit c stands for the company c'", this::bitsOfTheGroup);
        check.test("Promise 8: the empty and the full group", this::wholeGroup);
        check.test("Terms: 'hold more than 50 percent', by one", this::controlByOne);
        check.test("Terms: 'hold more than 50 percent together'", this::controlTogether);
        check.test("Terms: 'companies of the group hold', no others", this::controlByOthers);
        check.test("Terms: 'beginning with the parent alone', chains", this::chainsOfControl);
        check.test("Terms: 'no company that does not come in by this'", this::controlByItself);
    }

    private void noHoldings() {
        Groupbooks x = new Groupbooks();
        for (int company = 0; company < 6; company++) {
            for (int other = 0; other < 6; other++) {
                check.same("held", x.held(company, other), 0);
            }
            check.same("numerator", x.shareNumerator(company), company == 0 ? 1 : 0);
            check.same("denominator", x.shareDenominator(company), 1);
            check.same("goodwill", x.goodwill(company), 0);
        }
        check.same("group", x.group(), 1);
    }

    private void emptyBooks() {
        Groupbooks x = new Groupbooks();
        for (int company = 0; company < 6; company++) {
            check.same("netValue", x.netValue(company), 0);
            check.same("translatedEquity", x.translatedEquity(company), 0);
            check.same("translatedResult", x.translatedResult(company), 0);
            check.same("reserve", x.reserve(company), 0);
            check.same("minority", x.minority(company), 0);
            for (int other = 0; other < 6; other++) {
                if (company != other) {
                    check.same("difference", x.difference(company, other), 0);
                }
            }
        }
        check.same("eliminated", x.eliminated(), 0);
        check.same("assets", x.assets(), 0);
        check.same("debts", x.debts(), 0);
        check.same("equity", x.equity(), 0);
        check.same("result", x.result(), 0);
    }

    private void nothingIsClosed() {
        check.refusesArgument(Scenes::fresh, x -> x.resultOf(0));
        Groupbooks x = new Groupbooks();
        for (int period = 0; period < 12; period++) {
            x.close();
        }
        check.same("all twelve were open", x.resultOf(11), 0);
    }

    private void objectsAreApart() {
        Groupbooks x = Scenes.busy();
        String before = Snapshot.of(x);
        check.note(Snapshot.of(new Groupbooks()).equals(Snapshot.of(new Groupbooks())), "new");
        Scenes.circle().close();
        check.note(before.equals(Snapshot.of(x)), "another object changed it");
    }

    private void heldAnswers() {
        Groupbooks x = new Groupbooks();
        x.hold(0, 5, 100);
        x.hold(5, 0, 1);
        check.same("the most", x.held(0, 5), 100);
        check.same("the least", x.held(5, 0), 1);
        check.same("none", x.held(4, 5), 0);
        for (int company = 0; company < 6; company++) {
            check.same("of itself", x.held(company, company), 0);
        }
        x.acquire(5, 0, 98, 3);
        check.same("acquired", x.held(5, 0), 99);
    }

    private void heldRefuses() {
        check.same("the last of both", Scenes.busy().held(5, 5), 0);
        check.refusesOutside(0, 5, (x, value) -> x.held(value, 0));
        check.refusesOutside(0, 5, (x, value) -> x.held(5, value));
        check.refusesOutside(0, 5, (x, value) -> x.held(value, value));
    }

    private void share(Groupbooks x, int company, long numerator, long denominator) {
        check.same("numerator of " + company, x.shareNumerator(company), numerator);
        check.same("denominator of " + company, x.shareDenominator(company), denominator);
    }

    private void circularShares() {
        Groupbooks x = new Groupbooks();
        x.hold(0, 1, 60);
        x.hold(1, 2, 70);
        x.hold(2, 1, 30);
        share(x, 1, 60, 79);
        share(x, 2, 42, 79);
        x.hold(0, 2, 10);
        share(x, 1, 63, 79);
        share(x, 2, 52, 79);
        x.hold(0, 1, 0);
        x.hold(0, 2, 0);
        share(x, 1, 0, 1);
        share(x, 2, 0, 1);
    }

    private void lowestTerms() {
        Groupbooks x = new Groupbooks();
        x.hold(0, 1, 50);
        share(x, 1, 1, 2);
        x.hold(1, 2, 40);
        share(x, 2, 1, 5);
        x.hold(0, 1, 100);
        share(x, 1, 1, 1);
        share(x, 2, 2, 5);
        x.hold(0, 5, 99);
        share(x, 5, 99, 100);
        x.hold(0, 5, 1);
        share(x, 5, 1, 100);
    }

    private void numeratorRefuses() {
        check.same("the first", Scenes.whole().shareNumerator(0), 1);
        check.same("the last", Scenes.whole().shareNumerator(5), 1);
        check.refusesOutside(0, 5, (x, value) -> x.shareNumerator(value));
    }

    private void widestShares() {
        Groupbooks x = new Groupbooks();
        for (int company = 1; company < 6; company++) {
            x.hold(company - 1, company, 99);
        }
        share(x, 5, 9509900499L, 10000000000L);
        for (int company = 1; company < 6; company++) {
            x.hold(company - 1, company, 1);
        }
        share(x, 5, 1, 10000000000L);
        Groupbooks y = new Groupbooks();
        y.hold(0, 1, 1);
        for (int company = 1; company < 6; company++) {
            y.hold(company == 1 ? 5 : company - 1, company, 97);
        }
        share(y, 1, 100000000L, 10000000000L - 8587340257L);
        share(y, 5, 88529281L, 10000000000L - 8587340257L);
    }

    private void emptyShares() {
        Groupbooks x = Scenes.chain(1, 5);
        for (int company = 1; company < 6; company++) {
            share(x, company, 0, 1);
        }
        x.hold(5, 1, 99);
        share(x, 3, 0, 1);
    }

    private void denominatorRefuses() {
        check.same("the first", Scenes.whole().shareDenominator(0), 1);
        check.same("the last", Scenes.whole().shareDenominator(5), 1);
        check.refusesOutside(0, 5, (x, value) -> x.shareDenominator(value));
    }

    private void shareOfTheParent() {
        Groupbooks x = new Groupbooks();
        share(x, 0, 1, 1);
        x.hold(1, 0, 100);
        share(x, 0, 1, 1);
        x.hold(0, 1, 50);
        share(x, 0, 1, 1);
        share(x, 1, 1, 2);
        share(Scenes.fullBy(0), 0, 1, 1);
    }

    private void sharesAreSums() {
        Groupbooks x = Scenes.fullBy(5);
        share(x, 5, 1, 5);
        for (int company = 1; company < 5; company++) {
            x.hold(0, company, 10 * company);
        }
        share(x, 5, 2, 5);
        Groupbooks y = new Groupbooks();
        for (int owner = 0; owner < 6; owner++) {
            for (int company = 0; company < 6; company++) {
                if (owner != company) {
                    y.hold(owner, company, 11 + (7 * owner + 5 * company) % 9);
                }
            }
        }
        for (int company = 1; company < 6; company++) {
            sumHolds(y, company);
        }
    }

    // 100 times the share is the sum of percent times the holders' shares, all as fractions.
    private void sumHolds(Groupbooks x, int company) {
        BigInteger top = BigInteger.ZERO;
        BigInteger bottom = BigInteger.ONE;
        for (int owner = 0; owner < 6; owner++) {
            BigInteger down = BigInteger.valueOf(x.shareDenominator(owner));
            BigInteger up = BigInteger.valueOf(x.shareNumerator(owner) * x.held(owner, company));
            top = top.multiply(down).add(up.multiply(bottom));
            bottom = bottom.multiply(down);
        }
        BigInteger left = BigInteger.valueOf(100 * x.shareNumerator(company)).multiply(bottom);
        BigInteger right = top.multiply(BigInteger.valueOf(x.shareDenominator(company)));
        check.note(left.equals(right), "the sum of " + company);
    }

    private void noRounds() {
        Groupbooks x = Scenes.whole();
        check.same("the parent", x.shareByRounds(0, 0), 1000000);
        for (int company = 1; company < 6; company++) {
            check.same("another", x.shareByRounds(company, 0), 0);
            check.same("after one", x.shareByRounds(company, 1), 1000000);
        }
        check.same("asked again", x.shareByRounds(3, 0), 0);
    }

    private void roundsAtOnce() {
        Groupbooks up = Scenes.chain(0, 5);
        Groupbooks down = new Groupbooks();
        for (int company = 5; company > 0; company--) {
            down.hold(company == 5 ? 0 : company + 1, company, 100);
        }
        for (int rounds = 0; rounds < 7; rounds++) {
            for (int company = 1; company < 6; company++) {
                check.same("upwards", up.shareByRounds(company, rounds),
                    rounds >= company ? 1000000 : 0);
                check.same("downwards", down.shareByRounds(company, rounds),
                    rounds >= 6 - company ? 1000000 : 0);
            }
        }
        Groupbooks x = Scenes.circle();
        check.same("1 round", x.shareByRounds(1, 1), 600000);
        check.same("2 rounds", x.shareByRounds(1, 2), 630000);
        check.same("3 rounds", x.shareByRounds(1, 3), 756000);
        check.same("2 rounds, the other", x.shareByRounds(2, 2), 520000);
    }

    private void roundsOfTheParent() {
        for (int rounds : new int[] {0, 1, 2, 199, 200}) {
            check.same("not held", Scenes.whole().shareByRounds(0, rounds), 1000000);
            check.same("held", Scenes.busy().shareByRounds(0, rounds), 1000000);
            check.same("wholly held", Scenes.fullBy(0).shareByRounds(0, rounds), 1000000);
        }
    }

    // Half of 35937 twice is 35937 as a sum, but 35936 if each part were divided.
    private void roundsDivideTheSum() {
        Groupbooks x = new Groupbooks();
        x.hold(0, 1, 33);
        x.hold(1, 2, 33);
        x.hold(2, 3, 33);
        x.hold(2, 4, 33);
        x.hold(3, 5, 50);
        x.hold(4, 5, 50);
        check.same("one way", x.shareByRounds(3, 3), 35937);
        check.same("other way", x.shareByRounds(4, 3), 35937);
        check.same("divided as a sum", x.shareByRounds(5, 4), 35937);
        x.hold(4, 5, 49);
        check.same("35577.63", x.shareByRounds(5, 4), 35577);
    }

    private void mostRounds() {
        Groupbooks x = Scenes.circle();
        check.same("the least", x.shareByRounds(1, 0), 0);
        check.same("the most, but one", x.shareByRounds(1, 199), 797467);
        check.same("the most", x.shareByRounds(1, 200), 797467);
        Groupbooks y = Scenes.chain(1, 2);
        y.hold(2, 1, 99);
        y.hold(0, 1, 1);
        check.same("slow, the most but one", y.shareByRounds(2, 199), 630241);
        check.same("slow, the most", y.shareByRounds(2, 200), 633938);
        check.refusesOutside(0, 200, (z, value) -> z.shareByRounds(0, value));
        check.refusesOutside(0, 200, (z, value) -> z.shareByRounds(5, value));
    }

    private void roundsRefuse() {
        check.same("the first", Scenes.busy().shareByRounds(0, 3), 1000000);
        check.same("the last", Scenes.busy().shareByRounds(5, 3), 56100);
        check.refusesOutside(0, 5, (x, value) -> x.shareByRounds(value, 0));
        check.refusesOutside(0, 5, (x, value) -> x.shareByRounds(value, 200));
    }

    private void bitsOfTheGroup() {
        for (int company = 1; company < 6; company++) {
            Groupbooks x = new Groupbooks();
            x.hold(0, company, 51);
            check.same("the parent and one", x.group(), 1 + (1 << company));
        }
    }

    private void wholeGroup() {
        check.same("the parent alone", new Groupbooks().group(), 1);
        check.same("all", Scenes.whole().group(), 63);
        Groupbooks x = Scenes.whole();
        x.hold(0, 3, 50);
        check.same("all but one", x.group(), 63 - 8);
    }

    private void controlByOne() {
        Groupbooks x = new Groupbooks();
        x.hold(0, 1, 50);
        check.same("50", x.group(), 1);
        x.hold(0, 1, 51);
        check.same("51", x.group(), 3);
        x.hold(0, 1, 100);
        check.same("100", x.group(), 3);
        x.hold(0, 1, 50);
        check.same("50 again", x.group(), 1);
        x.acquire(0, 1, 1, 0);
        check.same("one more", x.group(), 3);
    }

    private void controlTogether() {
        Groupbooks x = Scenes.whole();
        x.hold(0, 5, 10);
        for (int owner = 1; owner < 5; owner++) {
            x.hold(owner, 5, 10);
        }
        check.same("50 by five", x.group(), 31);
        x.hold(4, 5, 11);
        check.same("51 by five", x.group(), 63);
        x.hold(0, 4, 50);
        check.same("40 by four", x.group(), 15);
        Groupbooks y = new Groupbooks();
        y.hold(0, 1, 51);
        y.hold(1, 2, 51);
        check.same("an effective share of 26 percent", y.group(), 7);
    }

    private void controlByOthers() {
        Groupbooks x = new Groupbooks();
        x.hold(0, 1, 50);
        x.hold(2, 1, 50);
        check.same("50 and 50 of another", x.group(), 1);
        x.hold(0, 2, 51);
        check.same("the other has come in", x.group(), 7);
        x.hold(0, 2, 50);
        check.same("and is out", x.group(), 1);
        x.hold(3, 0, 100);
        check.same("the owner of the parent", x.group(), 1);
    }

    private void chainsOfControl() {
        Groupbooks up = new Groupbooks();
        Groupbooks down = new Groupbooks();
        for (int company = 1; company < 6; company++) {
            up.hold(company - 1, company, 51);
            down.hold(company == 5 ? 0 : company + 1, company, 51);
        }
        check.same("upwards", up.group(), 63);
        check.same("downwards", down.group(), 63);
        up.hold(2, 3, 50);
        down.hold(4, 3, 50);
        check.same("upwards, broken", up.group(), 7);
        check.same("downwards, broken", down.group(), 1 + 32 + 16);
        up.hold(0, 3, 1);
        check.same("mended by the parent", up.group(), 63);
    }

    private void controlByItself() {
        Groupbooks x = new Groupbooks();
        x.hold(1, 2, 99);
        x.hold(2, 1, 99);
        check.same("a pair of its own", x.group(), 1);
        x.hold(0, 1, 1);
        x.hold(0, 2, 1);
        check.same("shares of 1 are no control", x.group(), 1);
        check.same("a share of 1", x.shareNumerator(1), 1);
        x.hold(2, 1, 50);
        x.hold(0, 1, 50);
        check.same("50 of the parent", x.group(), 1);
        x.hold(2, 1, 49);
        x.hold(0, 1, 51);
        check.same("both at once", x.group(), 7);
    }
}
