import java.util.Random;

// Runs of 512 calls with arguments of a fixed seed, each answer compared with the model's.
public final class ModelTest {
    private static final int RUNS = 600;
    private static final int CALLS = 512;
    private static final int CIRCLES = 500;

    private final Check check;
    private Random random;
    private Groupbooks books;
    private Model model;
    // How wild the arguments are: the lower, the more of them are out of range.
    private int calm;
    private int least;

    ModelTest(Check check) {
        this.check = check;
    }

    void run() {
        check.test("Model: random runs of 512 calls answer what the model answers",
            this::randomRuns);
        check.test("Model: holdings that close a circle are refused as the model refuses them",
            this::randomCircles);
    }

    // Companies that come to be held wholly by one another, in any order: the last holding, or
    // an earlier one that closes a part of them, is refused.
    private void randomCircles() {
        int refused = 0;
        for (int run = 0; run < CIRCLES; run++) {
            random = new Random(run);
            books = new Groupbooks();
            model = new Model();
            refused += refusedInCircle(2 + random.nextInt(4));
        }
        check.note(refused > CIRCLES / 2, "only " + refused + " circles are closed");
    }

    private int refusedInCircle(int size) {
        int[] left = {0, 100, 100, 100, 100, 100};
        int refused = 0;
        for (int call = 0; call < CALLS / 4; call++) {
            int owner = 1 + random.nextInt(size);
            int company = 1 + random.nextInt(size);
            int more = random.nextInt(3) == 0 ? 1 + random.nextInt(50) : 100;
            int after = books.held(owner, company) + Math.min(more, left[company]);
            if (owner != company && left[company] > 0) {
                long due = model.hold(owner, company, after);
                boolean taken = Check.thrownBy(books, x -> x.hold(owner, company, after)) == null;
                check.note(taken == (due != Model.BAD_STATE), "a circle of " + size);
                left[company] -= taken ? after - (int) due : 0;
                refused += taken ? 0 : 1;
            }
        }
        return refused;
    }

    private void randomRuns() {
        for (int run = 0; run < RUNS; run++) {
            random = new Random(20261120L + run);
            books = new Groupbooks();
            model = new Model();
            calm = run % 3 == 0 ? 8 : 200;
            least = run % 2 == 0 ? 1 : 40;
            String wrong = wrongCall(run);
            check.note(wrong == null, wrong);
        }
    }

    private String wrongCall(int run) {
        for (int call = 0; call < CALLS; call++) {
            int kind = random.nextInt(33);
            int[] a = arguments(kind);
            long due = askModel(kind, a);
            long got;
            try {
                got = askBooks(kind, a);
            } catch (RuntimeException thrown) {
                got = markOf(thrown);
            }
            if (got != due) {
                return "run " + run + ", call " + call + " of kind " + kind + " with "
                    + java.util.Arrays.toString(a) + " answered " + got + ", due is " + due;
            }
        }
        return null;
    }

    private static long markOf(RuntimeException thrown) {
        if (thrown.getClass() == IllegalArgumentException.class) {
            return Model.BAD_ARGUMENT;
        }
        if (thrown.getClass() == IllegalStateException.class) {
            return Model.BAD_STATE;
        }
        throw thrown;
    }

    private int company() {
        return random.nextInt(calm) == 0 ? random.nextInt(10) - 2 : random.nextInt(6);
    }

    private int percent() {
        return random.nextInt(calm) == 0 ? random.nextInt(120) - 10
            : random.nextInt(4) == 0 ? 100 : least + random.nextInt(61);
    }

    private int money() {
        return random.nextInt(calm) == 0 ? 999998 + random.nextInt(5)
            : random.nextInt(3) == 0 ? random.nextInt(300) : random.nextInt(1000001);
    }

    private int rate() {
        return random.nextInt(calm) == 0 ? random.nextInt(1100) - 50 : 1 + random.nextInt(1000);
    }

    private int[] arguments(int kind) {
        if (kind < 5) {
            return new int[] {company(), company(), random.nextInt(5) == 0 ? 0 : percent(), 0};
        }
        switch (kind) {
            case 5:
            case 6:
                return new int[] {company(), company(), 1 + percent() / 3, money()};
            case 7:
            case 8:
                int debts = money();
                int assets = money();
                int result = random.nextInt(2) == 0 ? money() / 2 : -money() / 2;
                int off = random.nextInt(calm) == 0 ? 1 : 0;
                return new int[] {company(), assets, debts, assets - debts - result + off, result};
            case 9:
            case 10:
                return new int[] {company(), rate(), rate(), rate()};
            case 11:
            case 12:
            case 13:
                return new int[] {company(), company(), money()};
            case 14:
                return new int[] {random.nextInt(calm) == 0 ? 12 : random.nextInt(14) - 1};
            default:
                return new int[] {company(), kind == 17 ? random.nextInt(210) - 4 : company()};
        }
    }

    private long askBooks(int kind, int[] a) {
        if (kind < 5) {
            return books.hold(a[0], a[1], a[2]);
        }
        switch (kind) {
            case 5:
            case 6:
                return books.acquire(a[0], a[1], a[2], a[3]);
            case 7:
            case 8:
                books.setBooks(a[0], a[1], a[2], a[3], a[4]);
                return 0;
            case 9:
            case 10:
                books.setRates(a[0], a[1], a[2], a[3]);
                return 0;
            case 11:
                return books.claim(a[0], a[1], a[2]);
            case 12:
            case 13:
                return books.admit(a[0], a[1], a[2]);
            case 14:
                return books.resultOf(a[0]);
            case 15:
                return books.held(a[0], a[1]);
            case 16:
                return books.difference(a[0], a[1]);
            case 17:
                return books.shareByRounds(a[0], a[1]);
            case 18:
                return books.shareNumerator(a[0]);
            case 19:
                return books.shareDenominator(a[0]);
            case 20:
                return books.goodwill(a[0]);
            case 21:
                return books.netValue(a[0]);
            case 22:
                return books.translatedEquity(a[0]);
            case 23:
                return books.translatedResult(a[0]);
            case 24:
                return books.reserve(a[0]);
            case 25:
                return books.minority(a[0]);
            case 26:
                return books.group();
            case 27:
                return books.eliminated();
            case 28:
                return books.assets();
            case 29:
                return books.equity();
            case 30:
                return books.result();
            case 31:
                return books.debts();
            default:
                return books.close();
        }
    }

    private long askModel(int kind, int[] a) {
        if (kind < 5) {
            return model.hold(a[0], a[1], a[2]);
        }
        switch (kind) {
            case 5:
            case 6:
                return model.acquire(a[0], a[1], a[2], a[3]);
            case 7:
            case 8:
                return model.setBooks(a[0], a[1], a[2], a[3], a[4]);
            case 9:
            case 10:
                return model.setRates(a[0], a[1], a[2], a[3]);
            case 11:
                return model.claim(a[0], a[1], a[2]);
            case 12:
            case 13:
                return model.admit(a[0], a[1], a[2]);
            case 14:
                return model.resultOf(a[0]);
            case 15:
                return model.held(a[0], a[1]);
            case 16:
                return model.difference(a[0], a[1]);
            case 17:
                return model.shareByRounds(a[0], a[1]);
            case 18:
                return model.shareNumerator(a[0]);
            case 19:
                return model.shareDenominator(a[0]);
            case 20:
                return model.goodwill(a[0]);
            case 21:
                return model.netValue(a[0]);
            case 22:
                return model.translatedEquity(a[0]);
            case 23:
                return model.translatedResult(a[0]);
            case 24:
                return model.reserve(a[0]);
            case 25:
                return model.minority(a[0]);
            case 26:
                return model.group();
            case 27:
                return model.eliminated();
            case 28:
                return model.assets();
            case 29:
                return model.equity();
            case 30:
                return model.result();
            case 31:
                return model.debts();
            default:
                return model.close();
        }
    }
}
