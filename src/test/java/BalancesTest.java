// Promises 16 to 19: the balances between companies.
public final class BalancesTest {
    private final Check check;

    BalancesTest(Check check) {
        this.check = check;
    }

    void run() {
        claimSets();
        claimRefuses();
        admitSets();
        admitRefuses();
        differenceAnswers();
        differenceRefuses();
        eliminatedIsTheLesser();
        eliminatedInTheGroupOnly();
        eliminatedTheMost();
    }

    private void claimSets() {
        Groupbooks x = new Groupbooks();
        check.same("16: first", x.claim(3, 4, 1000000), 0);
        check.same("16: again", x.claim(3, 4, 7), 1000000);
        check.same("16: to none", x.claim(3, 4, 0), 7);
        check.same("16: none", x.claim(3, 4, 9), 0);
        check.same("16: other way", x.claim(4, 3, 1), 0);
        check.same("16: claimed", x.difference(3, 4), 9);
    }

    private void claimRefuses() {
        Groupbooks x = new Groupbooks();
        x.claim(0, 1, 5);
        check.refusesArgument("16: creditor -1", x, () -> x.claim(-1, 1, 1));
        check.refusesArgument("16: creditor 6", x, () -> x.claim(6, 1, 1));
        check.refusesArgument("16: debtor -1", x, () -> x.claim(0, -1, 1));
        check.refusesArgument("16: debtor 6", x, () -> x.claim(0, 6, 1));
        check.refusesArgument("16: itself", x, () -> x.claim(2, 2, 1));
        check.refusesArgument("16: amount -1", x, () -> x.claim(0, 1, -1));
        check.refusesArgument("16: amount too high", x, () -> x.claim(0, 1, 1000001));
    }

    private void admitSets() {
        Groupbooks x = new Groupbooks();
        check.same("17: first", x.admit(3, 4, 1000000), 0);
        check.same("17: again", x.admit(3, 4, 7), 1000000);
        check.same("17: other way", x.admit(4, 3, 1), 0);
        check.same("17: no claim", x.claim(4, 3, 0), 0);
        check.same("17: debtor comes first", x.difference(4, 3), -7);
        check.same("17: other way's", x.difference(3, 4), -1);
    }

    private void admitRefuses() {
        Groupbooks x = new Groupbooks();
        x.admit(0, 1, 5);
        check.refusesArgument("17: debtor -1", x, () -> x.admit(-1, 1, 1));
        check.refusesArgument("17: debtor 6", x, () -> x.admit(6, 1, 1));
        check.refusesArgument("17: creditor -1", x, () -> x.admit(0, -1, 1));
        check.refusesArgument("17: creditor 6", x, () -> x.admit(0, 6, 1));
        check.refusesArgument("17: itself", x, () -> x.admit(2, 2, 1));
        check.refusesArgument("17: amount -1", x, () -> x.admit(0, 1, -1));
        check.refusesArgument("17: amount too high", x, () -> x.admit(0, 1, 1000001));
    }

    private void differenceAnswers() {
        Groupbooks x = new Groupbooks();
        x.claim(4, 5, 50);
        x.admit(5, 4, 45);
        check.same("18: outside the group too", x.difference(4, 5), 5);
        check.same("18: other way", x.difference(5, 4), 0);
        x.admit(5, 4, 1000000);
        x.claim(4, 5, 0);
        check.same("18: below 0", x.difference(4, 5), -1000000);
    }

    private void differenceRefuses() {
        Groupbooks x = new Groupbooks();
        check.refusesArgument("18: creditor -1", x, () -> x.difference(-1, 1));
        check.refusesArgument("18: creditor 6", x, () -> x.difference(6, 1));
        check.refusesArgument("18: debtor -1", x, () -> x.difference(0, -1));
        check.refusesArgument("18: debtor 6", x, () -> x.difference(0, 6));
        check.refusesArgument("18: itself", x, () -> x.difference(3, 3));
    }

    private void eliminatedIsTheLesser() {
        Groupbooks x = new Groupbooks();
        x.hold(0, 1, 51);
        x.claim(0, 1, 50);
        check.same("19: not admitted", x.eliminated(), 0);
        x.admit(1, 0, 45);
        check.same("19: admitted less", x.eliminated(), 45);
        x.admit(1, 0, 55);
        check.same("19: claimed less", x.eliminated(), 50);
        x.admit(0, 1, 20);
        check.same("19: each way apart", x.eliminated(), 50);
        x.claim(1, 0, 30);
        check.same("19: both ways", x.eliminated(), 70);
    }

    private void eliminatedInTheGroupOnly() {
        Groupbooks x = new Groupbooks();
        x.claim(0, 1, 3);
        x.admit(1, 0, 3);
        x.claim(2, 1, 5);
        x.admit(1, 2, 5);
        check.same("19: none is in", x.eliminated(), 0);
        x.hold(0, 1, 51);
        check.same("19: one pair is in", x.eliminated(), 3);
        x.hold(1, 2, 51);
        check.same("19: both are in", x.eliminated(), 8);
        x.hold(0, 1, 50);
        check.same("19: out again", x.eliminated(), 0);
        x.hold(0, 2, 49);
        x.hold(0, 1, 49);
        check.same("19: only debtors out", x.eliminated(), 0);
        x.hold(1, 2, 0);
        x.hold(0, 2, 100);
        check.same("19: creditor in, debtor out", x.eliminated(), 0);
    }

    private void eliminatedTheMost() {
        Groupbooks x = new Groupbooks();
        for (int creditor = 0; creditor < 6; creditor++) {
            if (creditor > 0) {
                x.hold(0, creditor, 100);
            }
            for (int debtor = 0; debtor < 6; debtor++) {
                if (creditor != debtor) {
                    x.claim(creditor, debtor, 1000000);
                    x.admit(debtor, creditor, 1000000);
                }
            }
        }
        check.same("19: all thirty", x.eliminated(), 30000000);
        check.same("20: below 0", x.assets(), -30000000);
        check.same("21: below 0", x.debts(), -30000000);
    }
}
