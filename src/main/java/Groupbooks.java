// Consolidated accounts of a group of companies. The face checks arguments and answers; the
// classes inside keep the holdings, the books and the balances, and take only checked arguments.
public final class Groupbooks {
    private static final int COMPANIES = 6;
    private static final int PARENT = 0;
    private static final int PERCENT = 100;
    private static final int MOST_MONEY = 1000000;
    private static final int MOST_RATE = 1000;
    private static final int MOST_ROUNDS = 200;
    private static final int MOST_PERIODS = 12;

    private final Holdings holdings = new Holdings();
    private final Books books = new Books();
    private final Balances balances = new Balances();
    private final int[] goodwills = new int[COMPANIES];
    private final int[] periodResults = new int[MOST_PERIODS];
    private int closedPeriods = 0;

    public Groupbooks() {
    }

    // ---- holdings

    public int hold(int owner, int company, int percent)
            throws IllegalArgumentException, IllegalStateException {
        requireTwoCompanies(owner, company);
        requireRange(percent, 0, PERCENT);
        int before = holdings.percentOf(owner, company);
        requireTaken(holdings.take(owner, company, percent));
        return before;
    }

    public int acquire(int owner, int company, int percent, int price)
            throws IllegalArgumentException, IllegalStateException {
        requireTwoCompanies(owner, company);
        requireRange(percent, 1, PERCENT);
        requireRange(price, 0, MOST_MONEY);
        int after = holdings.percentOf(owner, company) + percent;
        requireTaken(holdings.take(owner, company, after));
        goodwills[company] += price - Math.floorDiv(percent * books.netOf(company), PERCENT);
        return after;
    }

    public int held(int owner, int company) throws IllegalArgumentException {
        requireCompany(owner);
        requireCompany(company);
        return holdings.percentOf(owner, company);
    }

    public long shareNumerator(int company) throws IllegalArgumentException {
        requireCompany(company);
        return holdings.numeratorOf(company);
    }

    public long shareDenominator(int company) throws IllegalArgumentException {
        requireCompany(company);
        return holdings.denominatorOf(company);
    }

    public int shareByRounds(int company, int rounds) throws IllegalArgumentException {
        requireCompany(company);
        requireRange(rounds, 0, MOST_ROUNDS);
        return holdings.millionthsAfter(rounds, company);
    }

    public int group() {
        return holdings.members();
    }

    public int goodwill(int company) throws IllegalArgumentException {
        requireCompany(company);
        return goodwills[company];
    }

    // ---- books

    public void setBooks(int company, int assets, int debts, int equity, int result)
            throws IllegalArgumentException {
        requireCompany(company);
        requireRange(assets, 0, MOST_MONEY);
        requireRange(debts, 0, MOST_MONEY);
        requireRange(equity, -MOST_MONEY, MOST_MONEY);
        requireRange(result, -MOST_MONEY, MOST_MONEY);
        requireBalance(assets, debts + equity + result);
        books.enter(company, assets, debts, equity, result);
    }

    public void setRates(int company, int closing, int average, int historical)
            throws IllegalArgumentException {
        requireCompany(company);
        requireRange(closing, 1, MOST_RATE);
        requireRange(average, 1, MOST_RATE);
        requireRange(historical, 1, MOST_RATE);
        books.enterRates(company, closing, average, historical);
    }

    public int netValue(int company) throws IllegalArgumentException {
        requireCompany(company);
        return books.netOf(company);
    }

    public int translatedEquity(int company) throws IllegalArgumentException {
        requireCompany(company);
        return books.equityOf(company);
    }

    public int translatedResult(int company) throws IllegalArgumentException {
        requireCompany(company);
        return books.profitOf(company);
    }

    public int reserve(int company) throws IllegalArgumentException {
        requireCompany(company);
        return books.netOf(company) - books.equityOf(company) - books.profitOf(company);
    }

    // ---- balances between companies

    public int claim(int creditor, int debtor, int amount) throws IllegalArgumentException {
        requireTwoCompanies(creditor, debtor);
        requireRange(amount, 0, MOST_MONEY);
        return balances.replaceClaim(creditor, debtor, amount);
    }

    public int admit(int debtor, int creditor, int amount) throws IllegalArgumentException {
        requireTwoCompanies(debtor, creditor);
        requireRange(amount, 0, MOST_MONEY);
        return balances.replaceAdmitted(creditor, debtor, amount);
    }

    public int difference(int creditor, int debtor) throws IllegalArgumentException {
        requireTwoCompanies(creditor, debtor);
        return balances.disputed(creditor, debtor);
    }

    public int eliminated() {
        return balances.agreedAmong(holdings.members());
    }

    // ---- the group

    public int assets() {
        int members = holdings.members();
        int sum = 0;
        for (int company = 0; company < COMPANIES; company++) {
            if (isMember(members, company)) {
                sum += books.assetsOf(company);
            }
        }
        return sum - balances.agreedAmong(members);
    }

    public int debts() {
        int members = holdings.members();
        int sum = 0;
        for (int company = 0; company < COMPANIES; company++) {
            if (isMember(members, company)) {
                sum += books.debtsOf(company);
            }
        }
        return sum - balances.agreedAmong(members);
    }

    public int minority(int company) throws IllegalArgumentException {
        requireCompany(company);
        return minorityAmong(holdings.members(), company);
    }

    public int equity() {
        int members = holdings.members();
        int minorities = 0;
        for (int company = 0; company < COMPANIES; company++) {
            minorities += minorityAmong(members, company);
        }
        return assets() - debts() - minorities;
    }

    public int result() {
        int members = holdings.members();
        int sum = 0;
        for (int company = 0; company < COMPANIES; company++) {
            if (isMember(members, company)) {
                sum += holdings.partOfParent(company, books.profitOf(company));
            }
        }
        return sum;
    }

    public int close() throws IllegalStateException {
        if (closedPeriods < 0 || closedPeriods >= MOST_PERIODS) {
            throw new IllegalStateException("all periods are closed");
        }
        int kept = result();
        periodResults[closedPeriods] = kept;
        closedPeriods++;
        books.carryResults();
        return kept;
    }

    public int resultOf(int period) throws IllegalArgumentException {
        requireRange(period, 0, MOST_PERIODS - 1);
        if (period >= closedPeriods) {
            throw new IllegalArgumentException("period not closed");
        }
        return periodResults[period];
    }

    private int minorityAmong(int members, int company) {
        return isMember(members, company)
            ? holdings.partOfOthers(company, books.netOf(company)) : 0;
    }

    private static boolean isMember(int members, int company) {
        return (members >> company & 1) == 1;
    }

    private static void requireCompany(int company) {
        requireRange(company, 0, COMPANIES - 1);
    }

    private static void requireTwoCompanies(int one, int other) {
        requireCompany(one);
        requireCompany(other);
        if (one == other) {
            throw new IllegalArgumentException("a company and itself");
        }
    }

    private static void requireRange(int value, int least, int most) {
        if (value < least || value > most) {
            throw new IllegalArgumentException("argument out of range");
        }
    }

    private static void requireBalance(int assetSide, int otherSide) {
        if (assetSide != otherSide) {
            throw new IllegalArgumentException("books do not balance");
        }
    }

    private static void requireTaken(boolean taken) {
        if (!taken) {
            throw new IllegalStateException("holdings not possible");
        }
    }

    // The place of a pair of companies in an array that has a row for each company.
    private static int pair(int row, int column) {
        return row * COMPANIES + column;
    }

    // What each company holds of each other one, and the effective shares that follow from it.
    private static final class Holdings {
        private static final int CONTROL = 50;
        private static final int MILLIONTHS = 1000000;
        // Euclid's algorithm takes fewer steps than this for any two numbers of 63 bits.
        private static final int MOST_DIVISIONS = 100;

        private final int[] percents = new int[COMPANIES * COMPANIES];
        private final long[] numerators = new long[COMPANIES];
        private final long[] denominators = new long[COMPANIES];
        // The equation of each company but the parent; the parent's column is the right side.
        private final long[] equations = new long[COMPANIES * COMPANIES];
        private final int[] amounts = new int[COMPANIES];
        private final int[] nextAmounts = new int[COMPANIES];

        private Holdings() {
            for (int company = 0; company < COMPANIES; company++) {
                numerators[company] = company == PARENT ? 1 : 0;
                denominators[company] = 1;
            }
        }

        private int percentOf(int owner, int company) {
            return percents[pair(owner, company)];
        }

        private long numeratorOf(int company) {
            return numerators[company];
        }

        private long denominatorOf(int company) {
            return denominators[company];
        }

        private int partOfParent(int company, int amount) {
            return scale(amount, numerators[company], denominators[company]);
        }

        private int partOfOthers(int company, int amount) {
            long others = denominators[company] - numerators[company];
            return scale(amount, others, denominators[company]);
        }

        // A share is at most 1, so the quotient fits an int again; amounts are at most ten
        // millions and denominators at most 100 to the fifth, so the product fits a long.
        private static int scale(int amount, long part, long whole) {
            return whole > 0 ? (int) Math.floorDiv(amount * part, whole) : 0;
        }

        // Sets a holding and answers true, or leaves all as it was if that is not possible.
        private boolean take(int owner, int company, int percent) {
            int place = pair(owner, company);
            int before = percents[place];
            if (heldByAll(company) - before + percent > PERCENT) {
                return false;
            }
            percents[place] = percent;
            boolean determined = determineShares();
            if (!determined) {
                percents[place] = before;
            }
            return determined;
        }

        private int heldByAll(int company) {
            int sum = 0;
            for (int owner = 0; owner < COMPANIES; owner++) {
                sum += percents[pair(owner, company)];
            }
            return sum;
        }

        // Elimination that stays in whole numbers: each division by the pivot before is exact,
        // and every number is a determinant of the first equations, far within a long. No row
        // holds more than 100 beside its diagonal of 100, so no pivot is below 0, and one of 0
        // comes only if some companies are held wholly by each other: then the shares are open.
        private boolean determineShares() {
            writeEquations();
            long divisor = 1;
            for (int company = 1; company < COMPANIES; company++) {
                long pivot = equations[pair(company, company)];
                if (pivot <= 0) {
                    return false;
                }
                clearColumn(company, pivot, divisor);
                divisor = pivot;
            }
            keepShares(divisor);
            return true;
        }

        // 100 times its own share, less what each other one holds of it times that one's share,
        // is what the parent holds.
        private void writeEquations() {
            for (int company = 1; company < COMPANIES; company++) {
                equations[pair(company, PARENT)] = percents[pair(PARENT, company)];
                for (int owner = 1; owner < COMPANIES; owner++) {
                    equations[pair(company, owner)] =
                        owner == company ? PERCENT : -percents[pair(owner, company)];
                }
            }
        }

        private void clearColumn(int company, long pivot, long divisor) {
            for (int row = 1; row < COMPANIES; row++) {
                if (row != company) {
                    clearEntry(row, company, pivot, divisor);
                }
            }
        }

        private void clearEntry(int row, int company, long pivot, long divisor) {
            long factor = equations[pair(row, company)];
            if (divisor > 0) {
                for (int column = 0; column < COMPANIES; column++) {
                    long product = factor * equations[pair(company, column)];
                    int place = pair(row, column);
                    equations[place] = (equations[place] * pivot - product) / divisor;
                }
            }
        }

        private void keepShares(long denominator) {
            for (int company = 1; company < COMPANIES; company++) {
                long numerator = equations[pair(company, PARENT)];
                long common = commonDivisor(denominator, numerator);
                if (common > 0) {
                    numerators[company] = numerator / common;
                    denominators[company] = denominator / common;
                }
            }
        }

        private static long commonDivisor(long one, long other) {
            long larger = one;
            long rest = other;
            for (int step = 0; step < MOST_DIVISIONS && rest != 0; step++) {
                long next = larger % rest;
                larger = rest;
                rest = next;
            }
            return larger;
        }

        private int millionthsAfter(int rounds, int company) {
            for (int each = 0; each < COMPANIES; each++) {
                amounts[each] = each == PARENT ? MILLIONTHS : 0;
            }
            for (int round = 0; round < rounds; round++) {
                playRound();
            }
            return amounts[company];
        }

        // No company gets more than 100 percent, so the sums stay within 100 millions.
        private void playRound() {
            for (int company = 1; company < COMPANIES; company++) {
                int sum = 0;
                for (int owner = 0; owner < COMPANIES; owner++) {
                    sum += percents[pair(owner, company)] * amounts[owner];
                }
                nextAmounts[company] = sum / PERCENT;
            }
            for (int company = 1; company < COMPANIES; company++) {
                amounts[company] = nextAmounts[company];
            }
        }

        // Each pass but the last brings in a company, so as many passes as others are enough.
        private int members() {
            int members = 1 << PARENT;
            for (int pass = 1; pass < COMPANIES; pass++) {
                members = withControlled(members);
            }
            return members;
        }

        private int withControlled(int members) {
            int more = members;
            for (int company = 1; company < COMPANIES; company++) {
                if (heldAmong(members, company) > CONTROL) {
                    more |= 1 << company;
                }
            }
            return more;
        }

        private int heldAmong(int members, int company) {
            int sum = 0;
            for (int owner = 0; owner < COMPANIES; owner++) {
                if (isMember(members, owner)) {
                    sum += percents[pair(owner, company)];
                }
            }
            return sum;
        }
    }

    // The books of all companies, each in its own currency, and the rates that translate them.
    private static final class Books {
        private final int[] ownAssets = new int[COMPANIES];
        private final int[] ownDebts = new int[COMPANIES];
        private final int[] ownEquities = new int[COMPANIES];
        private final int[] ownProfits = new int[COMPANIES];
        private final int[] closingRates = new int[COMPANIES];
        private final int[] averageRates = new int[COMPANIES];
        private final int[] historicalRates = new int[COMPANIES];

        private Books() {
            for (int company = 0; company < COMPANIES; company++) {
                closingRates[company] = PERCENT;
                averageRates[company] = PERCENT;
                historicalRates[company] = PERCENT;
            }
        }

        private void enter(int company, int ownAsset, int ownDebt, int ownEquity, int ownProfit) {
            ownAssets[company] = ownAsset;
            ownDebts[company] = ownDebt;
            ownEquities[company] = ownEquity;
            ownProfits[company] = ownProfit;
        }

        private void enterRates(int company, int closing, int average, int historical) {
            closingRates[company] = closing;
            averageRates[company] = average;
            historicalRates[company] = historical;
        }

        private int assetsOf(int company) {
            return translate(ownAssets[company], closingRates[company]);
        }

        private int debtsOf(int company) {
            return translate(ownDebts[company], closingRates[company]);
        }

        private int equityOf(int company) {
            return translate(ownEquities[company], historicalRates[company]);
        }

        private int profitOf(int company) {
            return translate(ownProfits[company], averageRates[company]);
        }

        private int netOf(int company) {
            return assetsOf(company) - debtsOf(company);
        }

        // A million times 1000 fits an int, and an equity stays within a million when results
        // are carried to it, since it is then the assets less the debts.
        private static int translate(int amount, int rate) {
            return Math.floorDiv(amount * rate, PERCENT);
        }

        private void carryResults() {
            for (int company = 0; company < COMPANIES; company++) {
                ownEquities[company] += ownProfits[company];
                ownProfits[company] = 0;
            }
        }
    }

    // What each creditor claims of each debtor, and what the debtor admits; rows are creditors.
    private static final class Balances {
        private final int[] claims = new int[COMPANIES * COMPANIES];
        private final int[] admissions = new int[COMPANIES * COMPANIES];

        private int replaceClaim(int creditor, int debtor, int amount) {
            int place = pair(creditor, debtor);
            int before = claims[place];
            claims[place] = amount;
            return before;
        }

        private int replaceAdmitted(int creditor, int debtor, int amount) {
            int place = pair(creditor, debtor);
            int before = admissions[place];
            admissions[place] = amount;
            return before;
        }

        private int disputed(int creditor, int debtor) {
            int place = pair(creditor, debtor);
            return claims[place] - admissions[place];
        }

        private int agreedAmong(int members) {
            int sum = 0;
            for (int creditor = 0; creditor < COMPANIES; creditor++) {
                for (int debtor = 0; debtor < COMPANIES; debtor++) {
                    if (isMember(members, creditor) && isMember(members, debtor)) {
                        int place = pair(creditor, debtor);
                        sum += Math.min(claims[place], admissions[place]);
                    }
                }
            }
            return sum;
        }
    }
}
