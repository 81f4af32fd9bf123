// Promises 1 to 9: a new object and the holdings.
public final class HoldingsTest {
    private final Check check;

    HoldingsTest(Check check) {
        this.check = check;
    }

    void run() {
        newObject();
        holdSetsAndAnswersBefore();
        holdRefusesArguments();
        holdRefusesMoreThanAll();
        holdRefusesOpenShares();
        holdRefusesArgumentsFirst();
        acquireAdds();
        acquireRefuses();
        heldAnswers();
        sharesAreExact();
        sharesAreInLowestTerms();
        sharesOfTheWidestCircle();
        sharesRefuseArguments();
        roundsCountSimultaneously();
        roundsDivideTheSum();
        roundsRefuseArguments();
        groupByControl();
        groupNeedsTheParent();
        groupInAnyOrder();
        goodwillOverSteps();
        goodwillDividesThePercentOnly();
        goodwillOfLoss();
        goodwillRefusesArguments();
    }

    private void newObject() {
        Groupbooks x = new Groupbooks();
        for (int company = 0; company < 6; company++) {
            for (int other = 0; other < 6; other++) {
                check.same("1: held", x.held(company, other), 0);
                if (company != other) {
                    check.same("1: difference", x.difference(company, other), 0);
                }
            }
            check.same("1: numerator", x.shareNumerator(company), company == 0 ? 1 : 0);
            check.same("1: denominator", x.shareDenominator(company), 1);
            check.same("1: goodwill", x.goodwill(company), 0);
            check.same("1: netValue", x.netValue(company), 0);
            check.same("1: translatedEquity", x.translatedEquity(company), 0);
            check.same("1: translatedResult", x.translatedResult(company), 0);
            check.same("1: reserve", x.reserve(company), 0);
            check.same("1: minority", x.minority(company), 0);
        }
        check.same("1: group", x.group(), 1);
        check.same("1: eliminated", x.eliminated(), 0);
        check.same("1: assets", x.assets(), 0);
        check.same("1: debts", x.debts(), 0);
        check.same("1: equity", x.equity(), 0);
        check.same("1: result", x.result(), 0);
        check.refusesArgument("1: resultOf(0)", x, () -> x.resultOf(0));
        x.setBooks(3, 7, 3, 3, 1);
        check.same("1: closing rate 100", x.netValue(3), 4);
        check.same("1: historical rate 100", x.translatedEquity(3), 3);
        check.same("1: average rate 100", x.translatedResult(3), 1);
        check.same("1: objects are apart", new Groupbooks().netValue(3), 0);
    }

    private void holdSetsAndAnswersBefore() {
        Groupbooks x = new Groupbooks();
        check.same("2: first", x.hold(0, 1, 60), 0);
        check.same("2: again", x.hold(0, 1, 100), 60);
        check.same("2: the same", x.hold(0, 1, 100), 100);
        check.same("2: to none", x.hold(0, 1, 0), 100);
        check.same("2: none again", x.hold(0, 1, 40), 0);
        check.same("2: other owner", x.hold(5, 1, 60), 0);
        check.same("2: of the parent", x.hold(1, 0, 55), 0);
        check.same("2: kept", x.held(0, 1), 40);
        check.same("2: kept of the other", x.held(5, 1), 60);
        check.same("2: kept of the parent", x.held(1, 0), 55);
        check.same("2: not the other way", x.held(1, 5), 0);
    }

    private void holdRefusesArguments() {
        Groupbooks x = new Groupbooks();
        x.hold(0, 1, 60);
        check.refusesArgument("2: owner -1", x, () -> x.hold(-1, 1, 1));
        check.refusesArgument("2: owner 6", x, () -> x.hold(6, 1, 1));
        check.refusesArgument("2: company -1", x, () -> x.hold(0, -1, 1));
        check.refusesArgument("2: company 6", x, () -> x.hold(0, 6, 1));
        check.refusesArgument("2: percent -1", x, () -> x.hold(0, 1, -1));
        check.refusesArgument("2: percent 101", x, () -> x.hold(0, 1, 101));
        check.refusesArgument("2: itself", x, () -> x.hold(2, 2, 10));
        check.refusesArgument("2: itself, none", x, () -> x.hold(0, 0, 0));
        check.refusesArgument("2: far", x,
            () -> x.hold(Integer.MAX_VALUE, Integer.MIN_VALUE, Integer.MAX_VALUE));
    }

    private void holdRefusesMoreThanAll() {
        Groupbooks x = new Groupbooks();
        x.hold(0, 1, 60);
        check.refusesState("2: 101 together", x, () -> x.hold(2, 1, 41));
        check.same("2: 100 together", x.hold(2, 1, 40), 0);
        check.refusesState("2: one owner more", x, () -> x.hold(3, 1, 1));
        check.refusesState("2: its own part up", x, () -> x.hold(2, 1, 41));
        check.same("2: its own part is no other's", x.hold(2, 1, 40), 40);
        x.hold(1, 0, 50);
        x.hold(2, 0, 50);
        check.refusesState("2: of the parent", x, () -> x.hold(3, 0, 1));
    }

    private void holdRefusesOpenShares() {
        Groupbooks x = new Groupbooks();
        x.hold(1, 2, 100);
        check.refusesState("2: a wholly held pair", x, () -> x.hold(2, 1, 100));
        check.same("2: not quite", x.hold(2, 1, 99), 0);
        Groupbooks y = new Groupbooks();
        y.hold(1, 2, 100);
        y.hold(2, 3, 100);
        y.hold(3, 4, 100);
        y.hold(4, 5, 100);
        check.refusesState("2: a wholly held ring", y, () -> y.hold(5, 1, 100));
        check.same("2: through the parent it is determined", y.hold(5, 0, 100), 0);
        check.same("2: and back", y.hold(0, 1, 100), 0);
        check.same("2: a ring with the parent", y.shareNumerator(5), 1);
        Groupbooks z = new Groupbooks();
        z.hold(3, 4, 50);
        z.hold(5, 4, 50);
        z.hold(4, 3, 100);
        check.refusesState("2: a closed three", z, () -> z.hold(4, 5, 100));
        z.hold(3, 4, 49);
        check.same("2: one percent is free", z.hold(4, 5, 100), 0);
        check.refusesState("2: back to closed", z, () -> z.hold(3, 4, 50));
        check.same("2: the parent takes it", z.hold(0, 4, 1), 0);
        check.same("2: all is the parent's", z.shareNumerator(3), 1);
    }

    private void holdRefusesArgumentsFirst() {
        Groupbooks x = new Groupbooks();
        x.hold(0, 1, 100);
        check.refusesArgument("2: both apply", x, () -> x.hold(2, 1, 101));
        check.refusesArgument("2: both apply, itself", x, () -> x.hold(1, 1, 50));
        check.refusesArgument("3: both apply", x, () -> x.acquire(2, 1, 1, -1));
    }

    private void acquireAdds() {
        Groupbooks x = new Groupbooks();
        x.hold(0, 1, 30);
        check.same("3: more", x.acquire(0, 1, 21, 0), 51);
        check.same("3: one percent, the most price", x.acquire(0, 1, 1, 1000000), 52);
        check.same("3: held", x.held(0, 1), 52);
        check.same("3: other owner", x.acquire(2, 1, 48, 7), 48);
        check.same("3: all at once", x.acquire(0, 2, 100, 0), 100);
        check.same("3: share follows", x.shareNumerator(1), 1);
        check.same("3: of the parent", x.acquire(1, 0, 5, 9), 5);
        check.same("3: goodwill of the parent", x.goodwill(0), 9);
    }

    private void acquireRefuses() {
        Groupbooks x = new Groupbooks();
        x.acquire(0, 1, 60, 10);
        check.refusesArgument("3: owner -1", x, () -> x.acquire(-1, 1, 1, 1));
        check.refusesArgument("3: owner 6", x, () -> x.acquire(6, 1, 1, 1));
        check.refusesArgument("3: company -1", x, () -> x.acquire(0, -1, 1, 1));
        check.refusesArgument("3: company 6", x, () -> x.acquire(0, 6, 1, 1));
        check.refusesArgument("3: itself", x, () -> x.acquire(3, 3, 1, 1));
        check.refusesArgument("3: percent 0", x, () -> x.acquire(0, 1, 0, 1));
        check.refusesArgument("3: percent 101", x, () -> x.acquire(0, 2, 101, 1));
        check.refusesArgument("3: price -1", x, () -> x.acquire(0, 1, 1, -1));
        check.refusesArgument("3: price too high", x, () -> x.acquire(0, 1, 1, 1000001));
        check.refusesState("3: more than all", x, () -> x.acquire(0, 1, 41, 1));
        check.refusesState("3: more than all, other owner", x, () -> x.acquire(4, 1, 41, 1));
        x.acquire(2, 3, 100, 0);
        x.acquire(3, 2, 99, 0);
        check.refusesState("3: open shares", x, () -> x.acquire(3, 2, 1, 1));
        check.same("3: the parent may", x.acquire(0, 2, 1, 1), 1);
        check.same("3: share", x.shareNumerator(3), 1);
    }

    private void heldAnswers() {
        Groupbooks x = new Groupbooks();
        x.hold(4, 5, 17);
        check.same("4: held", x.held(4, 5), 17);
        check.same("4: other way", x.held(5, 4), 0);
        check.same("4: itself", x.held(4, 4), 0);
        check.refusesArgument("4: owner -1", x, () -> x.held(-1, 0));
        check.refusesArgument("4: owner 6", x, () -> x.held(6, 0));
        check.refusesArgument("4: company -1", x, () -> x.held(0, -1));
        check.refusesArgument("4: company 6", x, () -> x.held(0, 6));
    }

    private void sharesAreExact() {
        Groupbooks x = new Groupbooks();
        x.hold(0, 1, 60);
        x.hold(1, 2, 70);
        x.hold(2, 1, 30);
        share(x, 1, 60, 79);
        share(x, 2, 42, 79);
        x.hold(0, 2, 10);
        share(x, 1, 63, 79);
        share(x, 2, 52, 79);
        x.hold(2, 0, 90);
        share(x, 0, 1, 1);
        share(x, 2, 52, 79);
        x.hold(0, 1, 0);
        x.hold(0, 2, 0);
        share(x, 1, 0, 1);
        share(x, 2, 0, 1);
    }

    private void sharesAreInLowestTerms() {
        Groupbooks x = new Groupbooks();
        x.hold(0, 1, 50);
        share(x, 1, 1, 2);
        x.hold(1, 2, 40);
        share(x, 2, 1, 5);
        x.hold(0, 1, 100);
        share(x, 1, 1, 1);
        share(x, 2, 2, 5);
        x.hold(0, 3, 75);
        share(x, 3, 3, 4);
        share(x, 5, 0, 1);
    }

    private void sharesOfTheWidestCircle() {
        Groupbooks x = new Groupbooks();
        x.hold(0, 1, 1);
        x.hold(5, 1, 97);
        x.hold(1, 2, 97);
        x.hold(2, 3, 97);
        x.hold(3, 4, 97);
        x.hold(4, 5, 97);
        long ring = 97L * 97 * 97 * 97 * 97;
        share(x, 1, 100000000L, 10000000000L - ring);
        share(x, 5, 97L * 97 * 97 * 97, 10000000000L - ring);
    }

    private void sharesRefuseArguments() {
        Groupbooks x = new Groupbooks();
        check.refusesArgument("5: -1", x, () -> x.shareNumerator(-1));
        check.refusesArgument("5: 6", x, () -> x.shareNumerator(6));
        check.refusesArgument("6: -1", x, () -> x.shareDenominator(-1));
        check.refusesArgument("6: 6", x, () -> x.shareDenominator(6));
    }

    private void share(Groupbooks x, int company, long numerator, long denominator) {
        check.same("5: numerator of " + company, x.shareNumerator(company), numerator);
        check.same("6: denominator of " + company, x.shareDenominator(company), denominator);
    }

    private void roundsCountSimultaneously() {
        Groupbooks x = new Groupbooks();
        x.hold(0, 1, 60);
        x.hold(1, 2, 70);
        x.hold(2, 3, 50);
        x.hold(2, 1, 30);
        x.hold(3, 0, 40);
        check.same("7: 0 rounds", x.shareByRounds(1, 0), 0);
        check.same("7: parent, 0 rounds", x.shareByRounds(0, 0), 1000000);
        check.same("7: 1 round", x.shareByRounds(1, 1), 600000);
        check.same("7: not yet", x.shareByRounds(2, 1), 0);
        check.same("7: 2 rounds", x.shareByRounds(2, 2), 420000);
        check.same("7: two behind", x.shareByRounds(3, 2), 0);
        check.same("7: 3 rounds", x.shareByRounds(3, 3), 210000);
        check.same("7: 3 rounds back", x.shareByRounds(1, 3), 726000);
        check.same("7: 200 rounds", x.shareByRounds(2, 200), 531645);
        check.same("7: parent, 200 rounds", x.shareByRounds(0, 200), 1000000);
        check.same("7: asked again", x.shareByRounds(1, 1), 600000);
    }

    // Half of 35937 twice is 35937 as a sum, but 35936 if each part were divided.
    private void roundsDivideTheSum() {
        Groupbooks x = new Groupbooks();
        x.hold(0, 1, 33);
        x.hold(1, 2, 33);
        x.hold(2, 3, 33);
        x.hold(2, 4, 33);
        x.hold(3, 5, 50);
        x.hold(4, 5, 50);
        check.same("7: one way", x.shareByRounds(3, 3), 35937);
        check.same("7: other way", x.shareByRounds(4, 3), 35937);
        check.same("7: divided as a sum", x.shareByRounds(5, 4), 35937);
        x.hold(4, 5, 49);
        check.same("7: 35577.63", x.shareByRounds(5, 4), 35577);
    }

    private void roundsRefuseArguments() {
        Groupbooks x = new Groupbooks();
        check.refusesArgument("7: company -1", x, () -> x.shareByRounds(-1, 0));
        check.refusesArgument("7: company 6", x, () -> x.shareByRounds(6, 0));
        check.refusesArgument("7: rounds -1", x, () -> x.shareByRounds(0, -1));
        check.refusesArgument("7: rounds 201", x, () -> x.shareByRounds(0, 201));
    }

    private void groupByControl() {
        Groupbooks x = new Groupbooks();
        x.hold(0, 1, 50);
        check.same("8: 50 is not control", x.group(), 1);
        x.hold(0, 1, 51);
        check.same("8: 51 is", x.group(), 3);
        x.hold(0, 2, 30);
        x.hold(1, 2, 20);
        check.same("8: 50 together", x.group(), 3);
        x.hold(1, 2, 21);
        check.same("8: 51 together, though less effectively", x.group(), 7);
        x.hold(3, 2, 49);
        check.same("8: an outside owner", x.group(), 7);
        x.hold(2, 3, 51);
        x.hold(3, 4, 51);
        x.hold(4, 5, 51);
        check.same("8: all", x.group(), 63);
        x.hold(0, 1, 50);
        check.same("8: the chain falls", x.group(), 1);
    }

    private void groupNeedsTheParent() {
        Groupbooks x = new Groupbooks();
        x.hold(1, 2, 99);
        x.hold(2, 1, 99);
        check.same("8: a pair of its own", x.group(), 1);
        x.hold(0, 1, 1);
        check.same("8: shares of 1 are no control", x.group(), 1);
        x.hold(3, 0, 100);
        x.hold(0, 3, 50);
        check.same("8: the owner of the parent", x.group(), 1);
        x.hold(0, 3, 51);
        check.same("8: controlled owner of the parent", x.group(), 9);
    }

    private void groupInAnyOrder() {
        Groupbooks x = new Groupbooks();
        x.hold(0, 5, 51);
        x.hold(5, 4, 51);
        x.hold(4, 3, 51);
        x.hold(3, 2, 51);
        x.hold(2, 1, 51);
        check.same("8: a chain downwards", x.group(), 63);
        x.hold(4, 3, 50);
        check.same("8: broken in the middle", x.group(), 1 + 32 + 16);
    }

    private void goodwillOverSteps() {
        Groupbooks x = new Groupbooks();
        x.acquire(0, 3, 30, 500);
        check.same("9: no net value", x.goodwill(3), 500);
        x.setBooks(3, 1000, 200, 700, 100);
        x.setRates(3, 150, 100, 100);
        x.acquire(0, 3, 21, 500);
        check.same("9: at the closing rate", x.goodwill(3), 500 + 500 - 252);
        x.acquire(1, 3, 10, 0);
        check.same("9: less", x.goodwill(3), 748 - 120);
        x.acquire(0, 3, 39, 0);
        check.same("9: still less", x.goodwill(3), 628 - 468);
        x.hold(0, 3, 0);
        check.same("9: hold leaves it", x.goodwill(3), 160);
        x.acquire(2, 3, 90, 0);
        check.same("9: below 0", x.goodwill(3), 160 - 1080);
        check.same("9: of others", x.goodwill(2), 0);
        x.setBooks(3, 0, 0, 0, 0);
        check.same("9: kept", x.goodwill(3), -920);
    }

    private void goodwillDividesThePercentOnly() {
        Groupbooks x = new Groupbooks();
        x.setBooks(1, 799, 0, 799, 0);
        x.acquire(0, 1, 21, 500);
        check.same("9: 167.79 is 167", x.goodwill(1), 333);
    }

    private void goodwillOfLoss() {
        Groupbooks x = new Groupbooks();
        x.setBooks(1, 0, 799, -799, 0);
        x.acquire(0, 1, 21, 500);
        check.same("9: -167.79 is -168", x.goodwill(1), 668);
        x.setBooks(2, 0, 1000000, -1000000, 0);
        x.setRates(2, 1000, 1, 1);
        x.acquire(0, 2, 100, 1000000);
        check.same("9: the most at once", x.goodwill(2), 11000000);
    }

    private void goodwillRefusesArguments() {
        Groupbooks x = new Groupbooks();
        check.refusesArgument("9: -1", x, () -> x.goodwill(-1));
        check.refusesArgument("9: 6", x, () -> x.goodwill(6));
    }
}
