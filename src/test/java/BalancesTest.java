// Promises 16 to 19, and what 'Terms' says of them: the balances between companies.
public final class BalancesTest {
    private final Check check;

    BalancesTest(Check check) {
        this.check = check;
    }

    void run() {
        check.test("Promise 16: 'Sets what a creditor claims'", this::claimSets);
        check.test("Promise 16: 'Returns what it claimed before'", this::claimAnswersBefore);
        check.test("Promise 16: 'creditor: 0 to 5'", this::creditorOfClaim);
        check.test("Promise 16: 'debtor: 0 to 5, another one'", this::debtorOfClaim);
        check.test("Promise 16: 'amount: 0 to 1000000'", this::amountOfClaim);
        check.test("Promise 17: 'Sets what a debtor admits'", this::admitSets);
        check.test("Promise 17: 'Returns what it admitted before'", this::admitAnswersBefore);
        check.test("Promise 17: 'debtor: 0 to 5'", this::debtorOfAdmit);
        check.test("Promise 17: 'creditor: 0 to 5, another one'", this::creditorOfAdmit);
        check.test("Promise 17: 'amount: 0 to 1000000'", this::amountOfAdmit);
        check.test("Promise 18: 'less what the debtor admits'", this::differenceAnswers);
        check.test("Promise 18: 'whether they are in the group or not'", this::differenceAnywhere);
        check.test("Promise 18: 'creditor: 0 to 5'", this::creditorOfDifference);
        check.test("Promise 18: 'debtor: 0 to 5, another one'", this::debtorOfDifference);
        check.test("Terms: 'both 0 at first'", this::noBalances);
        check.test("Terms: 'The lesser one of both is eliminated'", this::theLesser);
        check.test("Terms: 'For each two companies', each way apart", this::eachWay);
        check.test("Terms: 'in the currency of the group', no rate applies", this::noRates);
        check.test("Terms: 'if both companies are in the group'", this::bothInTheGroup);
        check.test("Promise 19: 'all that is eliminated', the empty and the full case",
            this::allEliminated);
    }

    private void claimSets() {
        Groupbooks x = new Groupbooks();
        x.claim(3, 4, 7);
        x.claim(3, 4, 9);
        check.same("not added", x.difference(3, 4), 9);
        check.same("not the other way", x.difference(4, 3), 0);
        check.same("not admitted", x.admit(4, 3, 0), 0);
        x.claim(3, 4, 0);
        check.same("none again", x.difference(3, 4), 0);
    }

    private void claimAnswersBefore() {
        Groupbooks x = new Groupbooks();
        check.same("first", x.claim(3, 4, 1000000), 0);
        check.same("less", x.claim(3, 4, 7), 1000000);
        check.same("the same", x.claim(3, 4, 7), 7);
        check.same("to none", x.claim(3, 4, 0), 7);
        check.same("none", x.claim(3, 4, 0), 0);
        check.same("other way", x.claim(4, 3, 1), 0);
        check.note(Check.thrownBy(x, y -> y.claim(4, 3, -1)) != null, "refused");
        check.same("after a refused call", x.claim(4, 3, 2), 1);
    }

    private void creditorOfClaim() {
        check.same("the first", new Groupbooks().claim(0, 1, 5), 0);
        check.same("the last", new Groupbooks().claim(5, 1, 5), 0);
        check.refusesOutside(0, 5, (x, value) -> x.claim(value, 1, 5));
        check.refusesOutside(0, 5, (x, value) -> x.claim(value, value, 5));
    }

    private void debtorOfClaim() {
        check.same("the first", new Groupbooks().claim(1, 0, 5), 0);
        check.same("the last", new Groupbooks().claim(1, 5, 5), 0);
        check.refusesOutside(0, 5, (x, value) -> x.claim(0, value, 5));
        for (int each = 0; each < 6; each++) {
            int company = each;
            check.refusesArgument(x -> x.claim(company, company, 0));
            check.refusesArgument(x -> x.claim(company, company, 5));
        }
    }

    private void amountOfClaim() {
        Groupbooks x = new Groupbooks();
        x.claim(0, 1, 0);
        check.same("the least", x.difference(0, 1), 0);
        x.claim(0, 1, 1000000);
        check.same("the most", x.difference(0, 1), 1000000);
        check.refusesOutside(0, 1000000, (y, value) -> y.claim(0, 1, value));
        check.refusesOutside(0, 1000000, (y, value) -> y.claim(5, 4, value));
    }

    private void admitSets() {
        Groupbooks x = new Groupbooks();
        x.admit(3, 4, 7);
        x.admit(3, 4, 9);
        check.same("not added, the debtor first", x.difference(4, 3), -9);
        check.same("not the other way", x.difference(3, 4), 0);
        check.same("not claimed", x.claim(4, 3, 0), 0);
        x.admit(3, 4, 0);
        check.same("none again", x.difference(4, 3), 0);
    }

    private void admitAnswersBefore() {
        Groupbooks x = new Groupbooks();
        check.same("first", x.admit(3, 4, 1000000), 0);
        check.same("less", x.admit(3, 4, 7), 1000000);
        check.same("the same", x.admit(3, 4, 7), 7);
        check.same("to none", x.admit(3, 4, 0), 7);
        check.same("none", x.admit(3, 4, 0), 0);
        check.same("other way", x.admit(4, 3, 1), 0);
        check.note(Check.thrownBy(x, y -> y.admit(4, 3, -1)) != null, "refused");
        check.same("after a refused call", x.admit(4, 3, 2), 1);
    }

    private void debtorOfAdmit() {
        check.same("the first", new Groupbooks().admit(0, 1, 5), 0);
        check.same("the last", new Groupbooks().admit(5, 1, 5), 0);
        check.refusesOutside(0, 5, (x, value) -> x.admit(value, 1, 5));
        check.refusesOutside(0, 5, (x, value) -> x.admit(value, value, 5));
    }

    private void creditorOfAdmit() {
        check.same("the first", new Groupbooks().admit(1, 0, 5), 0);
        check.same("the last", new Groupbooks().admit(1, 5, 5), 0);
        check.refusesOutside(0, 5, (x, value) -> x.admit(0, value, 5));
        for (int each = 0; each < 6; each++) {
            int company = each;
            check.refusesArgument(x -> x.admit(company, company, 0));
            check.refusesArgument(x -> x.admit(company, company, 5));
        }
    }

    private void amountOfAdmit() {
        Groupbooks x = new Groupbooks();
        x.admit(1, 0, 0);
        check.same("the least", x.difference(0, 1), 0);
        x.admit(1, 0, 1000000);
        check.same("the most", x.difference(0, 1), -1000000);
        check.refusesOutside(0, 1000000, (y, value) -> y.admit(0, 1, value));
        check.refusesOutside(0, 1000000, (y, value) -> y.admit(5, 4, value));
    }

    private void differenceAnswers() {
        Groupbooks x = new Groupbooks();
        x.claim(4, 5, 50);
        x.admit(5, 4, 45);
        check.same("claimed more", x.difference(4, 5), 5);
        check.same("other way", x.difference(5, 4), 0);
        x.admit(5, 4, 50);
        check.same("agreed", x.difference(4, 5), 0);
        x.admit(5, 4, 51);
        check.same("admitted more", x.difference(4, 5), -1);
        x.claim(4, 5, 1000000);
        x.admit(5, 4, 0);
        check.same("the most", x.difference(4, 5), 1000000);
        x.admit(5, 4, 1000000);
        x.claim(4, 5, 0);
        check.same("the least", x.difference(4, 5), -1000000);
    }

    private void differenceAnywhere() {
        Groupbooks x = new Groupbooks();
        for (int debtor = 1; debtor < 6; debtor++) {
            x.claim(0, debtor, 10 * debtor);
            x.admit(debtor, 0, 3);
            check.same("out", x.difference(0, debtor), 10 * debtor - 3);
            x.hold(0, debtor, 51);
            check.same("in", x.difference(0, debtor), 10 * debtor - 3);
        }
    }

    private void creditorOfDifference() {
        check.same("the first", Scenes.circle().difference(0, 1), 5);
        check.same("the last", Scenes.busy().difference(5, 0), 40);
        check.refusesOutside(0, 5, (x, value) -> x.difference(value, 1));
        check.refusesOutside(0, 5, (x, value) -> x.difference(value, value));
    }

    private void debtorOfDifference() {
        check.same("the first", Scenes.busy().difference(5, 0), 40);
        check.same("the last", Scenes.busy().difference(4, 5), 30);
        check.refusesOutside(0, 5, (x, value) -> x.difference(0, value));
        for (int each = 0; each < 6; each++) {
            int company = each;
            check.refusesArgument(x -> x.difference(company, company));
        }
    }

    private void noBalances() {
        Groupbooks x = Scenes.whole();
        for (int one = 0; one < 6; one++) {
            for (int other = 0; other < 6; other++) {
                if (one != other) {
                    check.same("difference", x.difference(one, other), 0);
                    check.same("claimed", x.claim(one, other, 0), 0);
                    check.same("admitted", x.admit(one, other, 0), 0);
                }
            }
        }
        check.same("eliminated", x.eliminated(), 0);
    }

    private void eliminated(int claimed, int admitted, int due) {
        Groupbooks x = Scenes.whole();
        x.claim(4, 5, claimed);
        x.admit(5, 4, admitted);
        check.same(claimed + " and " + admitted, x.eliminated(), due);
    }

    private void theLesser() {
        eliminated(0, 0, 0);
        eliminated(50, 0, 0);
        eliminated(0, 50, 0);
        eliminated(50, 49, 49);
        eliminated(50, 50, 50);
        eliminated(50, 51, 50);
        eliminated(1000000, 1, 1);
        eliminated(1, 1000000, 1);
        eliminated(1000000, 1000000, 1000000);
        eliminated(1000000, 999999, 999999);
    }

    private void eachWay() {
        Groupbooks x = Scenes.whole();
        x.claim(1, 2, 50);
        x.admit(1, 2, 30);
        check.same("a claim and an admission of the same company", x.eliminated(), 0);
        x.admit(2, 1, 45);
        check.same("one way", x.eliminated(), 45);
        x.claim(2, 1, 20);
        check.same("the other way too", x.eliminated(), 65);
        x.claim(2, 3, 8);
        x.admit(3, 2, 9);
        check.same("of another pair too", x.eliminated(), 73);
    }

    private void noRates() {
        Groupbooks x = Scenes.whole();
        x.setRates(1, 1, 1, 1);
        x.setRates(2, 1000, 1000, 1000);
        x.claim(1, 2, 50);
        x.admit(2, 1, 45);
        check.same("eliminated", x.eliminated(), 45);
        check.same("difference", x.difference(1, 2), 5);
        check.same("of the assets", x.assets(), -45);
        check.same("of the debts", x.debts(), -45);
    }

    private void bothInTheGroup() {
        Groupbooks x = new Groupbooks();
        x.claim(0, 1, 3);
        x.admit(1, 0, 3);
        x.claim(2, 1, 50);
        x.admit(1, 2, 50);
        check.same("debtors and a creditor are out", x.eliminated(), 0);
        x.hold(0, 1, 50);
        check.same("50 percent are out", x.eliminated(), 0);
        x.hold(0, 1, 51);
        check.same("a creditor is out", x.eliminated(), 3);
        x.hold(1, 2, 51);
        check.same("all are in", x.eliminated(), 53);
        x.hold(0, 1, 0);
        check.same("all are out again", x.eliminated(), 0);
        x.hold(0, 2, 49);
        check.same("51 percent are held from outside", x.eliminated(), 0);
        x.hold(1, 2, 0);
        x.hold(0, 2, 100);
        check.same("a debtor is out", x.eliminated(), 0);
        check.same("though it is told", x.claim(2, 1, 0), 50);
    }

    private void allEliminated() {
        check.same("the empty case", new Groupbooks().eliminated(), 0);
        Groupbooks x = Scenes.whole();
        for (int creditor = 0; creditor < 6; creditor++) {
            for (int debtor = 0; debtor < 6; debtor++) {
                if (creditor != debtor) {
                    x.claim(creditor, debtor, 1000000);
                    x.admit(debtor, creditor, 1000000);
                }
            }
        }
        check.same("all thirty", x.eliminated(), 30000000);
        check.same("assets below 0", x.assets(), -30000000);
        check.same("debts below 0", x.debts(), -30000000);
        x.hold(0, 5, 50);
        check.same("twenty of five companies", x.eliminated(), 20000000);
    }
}
