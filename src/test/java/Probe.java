// All that an object holds, as one text: first what can be asked, then what only further calls
// show. It takes some 270 calls, and the object is spent afterwards.
public final class Probe {
    private Probe() {
    }

    static String of(Groupbooks x) {
        StringBuilder text = new StringBuilder(Snapshot.of(x));
        addBalances(text, x);
        addHoldings(text, x);
        addEachCompanyInTheGroup(text, x);
        addRates(text, x);
        return text.toString();
    }

    private static void addBalances(StringBuilder text, Groupbooks x) {
        for (int creditor = 0; creditor < 6; creditor++) {
            for (int debtor = 0; debtor < 6; debtor++) {
                if (creditor != debtor) {
                    Snapshot.add(text, x.claim(creditor, debtor, 0));
                    Snapshot.add(text, x.admit(debtor, creditor, 0));
                }
            }
        }
    }

    private static void addHoldings(StringBuilder text, Groupbooks x) {
        for (int owner = 0; owner < 6; owner++) {
            for (int company = 0; company < 6; company++) {
                if (owner != company) {
                    Snapshot.add(text, x.hold(owner, company, 0));
                }
            }
        }
    }

    private static void addEachCompanyInTheGroup(StringBuilder text, Groupbooks x) {
        for (int company = 0; company < 6; company++) {
            if (company > 0) {
                x.hold(0, company, 100);
            }
            Snapshot.add(text, x.assets());
            Snapshot.add(text, x.debts());
        }
    }

    private static void addRates(StringBuilder text, Groupbooks x) {
        for (int company = 0; company < 6; company++) {
            x.setBooks(company, 10000, 0, 6000, 4000);
            Snapshot.add(text, x.netValue(company));
            Snapshot.add(text, x.translatedEquity(company));
            Snapshot.add(text, x.translatedResult(company));
        }
    }
}
