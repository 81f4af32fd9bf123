import java.math.BigInteger;
import java.util.ArrayList;
import java.util.List;

// The document again, in another form: fractions, and a queue for the group. A refused call
// answers one of the two marks in place of the exception.
public final class Model {
    static final long BAD_ARGUMENT = Long.MIN_VALUE;
    static final long BAD_STATE = Long.MIN_VALUE + 1;

    private final int[][] percents = new int[6][6];
    private final long[] goodwills = new long[6];
    private final long[][] books = new long[6][4];
    private final int[][] rates = new int[6][3];
    private final int[][] claims = new int[6][6];
    private final int[][] admitted = new int[6][6];
    private final List<Long> closed = new ArrayList<>();
    private BigInteger[] numerators;
    private BigInteger[] denominators;

    Model() {
        for (int company = 0; company < 6; company++) {
            rates[company] = new int[] {100, 100, 100};
        }
        solve();
    }

    static boolean outside(int value, int least, int most) {
        return value < least || value > most;
    }

    static boolean outside(int company) {
        return outside(company, 0, 5);
    }

    long hold(int owner, int company, int percent) {
        if (outside(owner) || outside(company) || owner == company || outside(percent, 0, 100)) {
            return BAD_ARGUMENT;
        }
        int before = percents[owner][company];
        return change(owner, company, percent) ? before : BAD_STATE;
    }

    long acquire(int owner, int company, int percent, int price) {
        if (outside(owner) || outside(company) || owner == company || outside(percent, 1, 100)
                || outside(price, 0, 1000000)) {
            return BAD_ARGUMENT;
        }
        int after = percents[owner][company] + percent;
        if (!change(owner, company, after)) {
            return BAD_STATE;
        }
        goodwills[company] += price - Math.floorDiv(percent * net(company), 100L);
        return after;
    }

    private boolean change(int owner, int company, int percent) {
        int before = percents[owner][company];
        percents[owner][company] = percent;
        int sum = 0;
        for (int each = 0; each < 6; each++) {
            sum += percents[each][company];
        }
        if (sum <= 100 && solve()) {
            return true;
        }
        percents[owner][company] = before;
        return false;
    }

    // Gauss with a search for a pivot, on fractions as pairs of whole numbers.
    private boolean solve() {
        BigInteger[][] up = new BigInteger[6][7];
        BigInteger[][] down = new BigInteger[6][7];
        for (int row = 0; row < 6; row++) {
            for (int column = 0; column < 7; column++) {
                int value = row == column ? 100 : 0;
                if (row > 0 && column < 6) {
                    value -= percents[column][row];
                }
                if (row == 0 && column == 6) {
                    value = 100;
                }
                up[row][column] = BigInteger.valueOf(value);
                down[row][column] = BigInteger.valueOf(100);
            }
        }
        for (int step = 0; step < 6; step++) {
            int pivot = step;
            while (pivot < 6 && up[pivot][step].signum() == 0) {
                pivot++;
            }
            if (pivot == 6) {
                return false;
            }
            swap(up, pivot, step);
            swap(down, pivot, step);
            for (int row = 0; row < 6; row++) {
                if (row != step) {
                    subtract(up, down, row, step);
                }
            }
        }
        numerators = new BigInteger[6];
        denominators = new BigInteger[6];
        for (int row = 0; row < 6; row++) {
            BigInteger top = up[row][6].multiply(down[row][row]);
            BigInteger bottom = down[row][6].multiply(up[row][row]);
            BigInteger common = top.gcd(bottom);
            if (bottom.signum() < 0) {
                common = common.negate();
            }
            numerators[row] = top.divide(common);
            denominators[row] = bottom.divide(common);
        }
        return true;
    }

    private static void swap(BigInteger[][] rows, int one, int other) {
        BigInteger[] kept = rows[one];
        rows[one] = rows[other];
        rows[other] = kept;
    }

    private static void subtract(BigInteger[][] up, BigInteger[][] down, int row, int step) {
        BigInteger top = up[row][step].multiply(down[step][step]);
        BigInteger bottom = down[row][step].multiply(up[step][step]);
        for (int column = 0; column < 7; column++) {
            BigInteger partTop = top.multiply(up[step][column]);
            BigInteger partBottom = bottom.multiply(down[step][column]);
            BigInteger sumTop = up[row][column].multiply(partBottom)
                .subtract(partTop.multiply(down[row][column]));
            BigInteger sumBottom = down[row][column].multiply(partBottom);
            BigInteger common = sumTop.gcd(sumBottom);
            up[row][column] = sumTop.divide(common);
            down[row][column] = sumBottom.divide(common);
        }
    }

    long held(int owner, int company) {
        return outside(owner) || outside(company) ? BAD_ARGUMENT : percents[owner][company];
    }

    long shareNumerator(int company) {
        return outside(company) ? BAD_ARGUMENT : numerators[company].longValueExact();
    }

    long shareDenominator(int company) {
        return outside(company) ? BAD_ARGUMENT : denominators[company].longValueExact();
    }

    long shareByRounds(int company, int rounds) {
        if (outside(company) || outside(rounds, 0, 200)) {
            return BAD_ARGUMENT;
        }
        long[] amounts = {1000000, 0, 0, 0, 0, 0};
        for (int round = 0; round < rounds; round++) {
            long[] next = {1000000, 0, 0, 0, 0, 0};
            for (int each = 1; each < 6; each++) {
                for (int owner = 0; owner < 6; owner++) {
                    next[each] += percents[owner][each] * amounts[owner];
                }
                next[each] /= 100;
            }
            amounts = next;
        }
        return amounts[company];
    }

    private boolean[] inGroup() {
        boolean[] in = new boolean[6];
        int[] together = new int[6];
        List<Integer> queue = new ArrayList<>(List.of(0));
        in[0] = true;
        for (int at = 0; at < queue.size(); at++) {
            for (int company = 0; company < 6; company++) {
                together[company] += percents[queue.get(at)][company];
                if (together[company] > 50 && !in[company]) {
                    in[company] = true;
                    queue.add(company);
                }
            }
        }
        return in;
    }

    long group() {
        boolean[] in = inGroup();
        long bits = 0;
        for (int company = 0; company < 6; company++) {
            bits += in[company] ? 1L << company : 0;
        }
        return bits;
    }

    long goodwill(int company) {
        return outside(company) ? BAD_ARGUMENT : goodwills[company];
    }

    long setBooks(int company, int assets, int debts, int equity, int result) {
        if (outside(company) || outside(assets, 0, 1000000) || outside(debts, 0, 1000000)
                || outside(equity, -1000000, 1000000) || outside(result, -1000000, 1000000)
                || assets != (long) debts + equity + result) {
            return BAD_ARGUMENT;
        }
        books[company] = new long[] {assets, debts, equity, result};
        return 0;
    }

    long setRates(int company, int closing, int average, int historical) {
        if (outside(company) || outside(closing, 1, 1000) || outside(average, 1, 1000)
                || outside(historical, 1, 1000)) {
            return BAD_ARGUMENT;
        }
        rates[company] = new int[] {closing, average, historical};
        return 0;
    }

    private long translated(int company, int item) {
        int rate = item < 2 ? rates[company][0] : item == 2 ? rates[company][2] : rates[company][1];
        return Math.floorDiv(books[company][item] * rate, 100L);
    }

    private long net(int company) {
        return translated(company, 0) - translated(company, 1);
    }

    long netValue(int company) {
        return outside(company) ? BAD_ARGUMENT : net(company);
    }

    long translatedEquity(int company) {
        return outside(company) ? BAD_ARGUMENT : translated(company, 2);
    }

    long translatedResult(int company) {
        return outside(company) ? BAD_ARGUMENT : translated(company, 3);
    }

    long reserve(int company) {
        return outside(company) ? BAD_ARGUMENT
            : net(company) - translated(company, 2) - translated(company, 3);
    }

    long claim(int creditor, int debtor, int amount) {
        return replace(claims, creditor, debtor, amount);
    }

    long admit(int debtor, int creditor, int amount) {
        return replace(admitted, creditor, debtor, amount);
    }

    private static long replace(int[][] balances, int creditor, int debtor, int amount) {
        if (outside(creditor) || outside(debtor) || creditor == debtor
                || outside(amount, 0, 1000000)) {
            return BAD_ARGUMENT;
        }
        int before = balances[creditor][debtor];
        balances[creditor][debtor] = amount;
        return before;
    }

    long difference(int creditor, int debtor) {
        if (outside(creditor) || outside(debtor) || creditor == debtor) {
            return BAD_ARGUMENT;
        }
        return claims[creditor][debtor] - admitted[creditor][debtor];
    }

    long eliminated() {
        boolean[] in = inGroup();
        long sum = 0;
        for (int creditor = 0; creditor < 6; creditor++) {
            for (int debtor = 0; debtor < 6; debtor++) {
                sum += in[creditor] && in[debtor]
                    ? Math.min(claims[creditor][debtor], admitted[creditor][debtor]) : 0;
            }
        }
        return sum;
    }

    long assets() {
        return sumOf(0) - eliminated();
    }

    long debts() {
        return sumOf(1) - eliminated();
    }

    private long sumOf(int item) {
        boolean[] in = inGroup();
        long sum = 0;
        for (int company = 0; company < 6; company++) {
            sum += in[company] ? translated(company, item) : 0;
        }
        return sum;
    }

    long minority(int company) {
        if (outside(company)) {
            return BAD_ARGUMENT;
        }
        BigInteger others = denominators[company].subtract(numerators[company]);
        return inGroup()[company] ? part(net(company), others, denominators[company]) : 0;
    }

    private static long part(long amount, BigInteger numerator, BigInteger denominator) {
        BigInteger[] parts = BigInteger.valueOf(amount).multiply(numerator)
            .divideAndRemainder(denominator);
        return parts[0].longValueExact() - (parts[1].signum() < 0 ? 1 : 0);
    }

    long equity() {
        long sum = sumOf(0) - sumOf(1);
        for (int company = 0; company < 6; company++) {
            sum -= minority(company);
        }
        return sum;
    }

    long result() {
        boolean[] in = inGroup();
        long sum = 0;
        for (int company = 0; company < 6; company++) {
            sum += in[company]
                ? part(translated(company, 3), numerators[company], denominators[company]) : 0;
        }
        return sum;
    }

    long close() {
        if (closed.size() == 12) {
            return BAD_STATE;
        }
        closed.add(result());
        for (int company = 0; company < 6; company++) {
            books[company][2] += books[company][3];
            books[company][3] = 0;
        }
        return closed.get(closed.size() - 1);
    }

    long resultOf(int period) {
        return outside(period, 0, closed.size() - 1) ? BAD_ARGUMENT : closed.get(period);
    }
}
