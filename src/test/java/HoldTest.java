// Promises 2 and 3, and what 'Terms' says of what can be held: telling of holdings.
public final class HoldTest {
    private final Check check;

    HoldTest(Check check) {
        this.check = check;
    }

    void run() {
        check.test("Promise 2: 'owner: 0 to 5'", this::ownerOfHold);
        check.test("Promise 2: 'company: 0 to 5, another one'", this::companyOfHold);
        check.test("Promise 2: 'percent: 0 to 100'", this::percentOfHold);
        check.test("Promise 2: 'Sets what a company holds'", this::holdSets);
        check.test("Promise 2: 'Returns what it held before'", this::holdAnswersBefore);
        check.test("Promise 2: 'if more than 100 percent of the company would be held'",
            this::holdBeyondAll);
        check.test("Promise 2: 'or the holdings would not determine all effective shares'",
            this::holdOpens);
        check.test("Promise 3: 'owner: 0 to 5'", this::ownerOfAcquire);
        check.test("Promise 3: 'company: 0 to 5, another one'", this::companyOfAcquire);
        check.test("Promise 3: 'percent: 1 to 100: how much more'", this::percentOfAcquire);
        check.test("Promise 3: 'price: 0 to 1000000'", this::priceOfAcquire);
        check.test("Promise 3: 'Returns what it holds then'", this::acquireAnswersAfter);
        check.test("Promise 3: 'if more than 100 percent of the company would be held'",
            this::acquireBeyondAll);
        check.test("Promise 3: 'or the holdings would not determine all effective shares'",
            this::acquireOpens);
        check.test("Terms: 'all that is held of a company is at most 100 percent', by one",
            this::allByOne);
        check.test("Terms: 'all that is held of a company is at most 100 percent', by five",
            this::allByFive);
        check.test("Terms: 'Holdings that do not determine all effective shares', rings",
            this::rings);
        check.test("Terms: 'Holdings that do not determine all effective shares', no ring",
            this::closedWithoutARing);
        check.test("Terms: 'Holdings that do not determine all effective shares', beside others",
            this::closedBesideOthers);
        check.test("Terms: 'has not just one solution', what has just one", this::determined);
        check.test("Terms: 'Holdings can be circular, also of the parent'",
            this::ringsWithTheParent);
    }

    private void ownerOfHold() {
        check.same("the first", new Groupbooks().hold(0, 1, 10), 0);
        check.same("the last", new Groupbooks().hold(5, 1, 10), 0);
        check.refusesOutside(0, 5, (x, value) -> x.hold(value, 1, 1));
        check.refusesOutside(0, 5, (x, value) -> x.hold(value, value, 0));
    }

    private void companyOfHold() {
        check.same("the first", new Groupbooks().hold(1, 0, 10), 0);
        check.same("the last", new Groupbooks().hold(1, 5, 10), 0);
        check.refusesOutside(0, 5, (x, value) -> x.hold(0, value, 1));
        for (int each = 0; each < 6; each++) {
            int company = each;
            check.refusesArgument(x -> x.hold(company, company, 0));
            check.refusesArgument(x -> x.hold(company, company, 1));
            check.refusesArgument(x -> x.hold(company, company, 100));
        }
    }

    private void percentOfHold() {
        Groupbooks x = new Groupbooks();
        check.same("the least", x.hold(0, 1, 0), 0);
        check.same("kept", x.held(0, 1), 0);
        check.same("one", x.hold(0, 1, 1), 0);
        check.same("the most", x.hold(0, 1, 100), 1);
        check.same("kept", x.held(0, 1), 100);
        check.same("none again", x.hold(0, 1, 0), 100);
        check.refusesOutside(0, 100, (y, value) -> y.hold(0, 5, value));
    }

    private void holdSets() {
        Groupbooks x = new Groupbooks();
        x.hold(0, 1, 60);
        x.hold(0, 1, 70);
        check.same("not added", x.held(0, 1), 70);
        x.hold(0, 1, 20);
        check.same("less", x.held(0, 1), 20);
        check.same("not the other way", x.held(1, 0), 0);
        check.same("not by another", x.held(2, 1), 0);
        check.same("share follows", x.shareDenominator(1), 5);
        x.hold(0, 1, 0);
        check.same("empty again", x.shareNumerator(1), 0);
        check.same("no goodwill", x.goodwill(1), 0);
    }

    private void holdAnswersBefore() {
        Groupbooks x = new Groupbooks();
        check.same("first", x.hold(0, 1, 60), 0);
        check.same("more", x.hold(0, 1, 100), 60);
        check.same("the same", x.hold(0, 1, 100), 100);
        check.same("to none", x.hold(0, 1, 0), 100);
        check.same("none", x.hold(0, 1, 0), 0);
        x.hold(0, 1, 30);
        check.note(Check.thrownBy(x, y -> y.hold(0, 1, 101)) != null, "refused");
        check.same("after a refused call", x.hold(0, 1, 31), 30);
        x.acquire(0, 1, 4, 0);
        check.same("after an acquisition", x.hold(0, 1, 31), 35);
    }

    private static Groupbooks sixtyByTheParent() {
        Groupbooks x = new Groupbooks();
        x.hold(0, 1, 60);
        return x;
    }

    private void holdBeyondAll() {
        check.same("100 together", sixtyByTheParent().hold(2, 1, 40), 0);
        check.refusesState(HoldTest::sixtyByTheParent, x -> x.hold(2, 1, 41));
        check.refusesState(HoldTest::sixtyByTheParent, x -> x.hold(5, 1, 100));
        check.same("its own part counts once", sixtyByTheParent().hold(0, 1, 100), 60);
        check.same("100 of another", sixtyByTheParent().hold(5, 2, 100), 0);
    }

    private void holdOpens() {
        check.refusesState(() -> Scenes.chain(1, 2), x -> x.hold(2, 1, 100));
        check.same("99", Scenes.chain(1, 2).hold(2, 1, 99), 0);
        check.refusesState(HoldTest::ringButOne, x -> x.hold(2, 1, 100));
        check.same("99 still", ringButOne().hold(2, 1, 99), 99);
        check.same("the parent's last percent", ringButOne().hold(0, 1, 1), 0);
    }

    // Company 2 is wholly held by company 1, which is held by company 2 but for one percent.
    private static Groupbooks ringButOne() {
        Groupbooks x = Scenes.chain(1, 2);
        x.hold(2, 1, 99);
        return x;
    }

    private void ownerOfAcquire() {
        check.same("the first", new Groupbooks().acquire(0, 1, 10, 5), 10);
        check.same("the last", new Groupbooks().acquire(5, 1, 10, 5), 10);
        check.refusesOutside(0, 5, (x, value) -> x.acquire(value, 1, 1, 5));
        check.refusesOutside(0, 5, (x, value) -> x.acquire(value, value, 1, 5));
    }

    private void companyOfAcquire() {
        check.same("the first", new Groupbooks().acquire(1, 0, 10, 5), 10);
        check.same("the last", new Groupbooks().acquire(1, 5, 10, 5), 10);
        check.refusesOutside(0, 5, (x, value) -> x.acquire(0, value, 1, 5));
        for (int each = 0; each < 6; each++) {
            int company = each;
            check.refusesArgument(x -> x.acquire(company, company, 1, 5));
            check.refusesArgument(x -> x.acquire(company, company, 100, 0));
        }
    }

    private void percentOfAcquire() {
        Groupbooks x = new Groupbooks();
        check.same("the least", x.acquire(0, 1, 1, 0), 1);
        check.same("the least again", x.acquire(0, 1, 1, 0), 2);
        check.same("the most", x.acquire(0, 2, 100, 0), 100);
        check.refusesOutside(1, 100, (y, value) -> y.acquire(0, 5, value, 5));
        check.refusesArgument(Scenes::whole, y -> y.acquire(0, 1, 0, 5));
    }

    private void priceOfAcquire() {
        Groupbooks x = new Groupbooks();
        x.acquire(0, 1, 1, 0);
        check.same("the least", x.goodwill(1), 0);
        x.acquire(0, 1, 1, 1000000);
        check.same("the most", x.goodwill(1), 1000000);
        check.refusesOutside(0, 1000000, (y, value) -> y.acquire(0, 5, 1, value));
    }

    private void acquireAnswersAfter() {
        Groupbooks x = new Groupbooks();
        check.same("from none", x.acquire(0, 1, 30, 0), 30);
        check.same("more", x.acquire(0, 1, 21, 0), 51);
        check.same("another owner's own", x.acquire(2, 1, 48, 7), 48);
        check.same("to all", x.acquire(0, 1, 1, 7), 52);
        check.same("held", x.held(0, 1), 52);
        x.hold(0, 1, 5);
        check.same("after less was set", x.acquire(0, 1, 47, 7), 52);
        check.same("share follows", x.shareNumerator(1), 13);
        check.same("in 25", x.shareDenominator(1), 25);
    }

    private void acquireBeyondAll() {
        check.same("100 by one", sixtyByTheParent().acquire(0, 1, 40, 9), 100);
        check.same("100 by two", sixtyByTheParent().acquire(2, 1, 40, 9), 40);
        check.refusesState(HoldTest::sixtyByTheParent, x -> x.acquire(0, 1, 41, 9));
        check.refusesState(HoldTest::sixtyByTheParent, x -> x.acquire(2, 1, 41, 9));
        check.refusesState(HoldTest::sixtyByTheParent, x -> x.acquire(0, 1, 100, 9));
        check.refusesState(Scenes::whole, x -> x.acquire(0, 5, 1, 9));
        check.refusesState(Scenes::whole, x -> x.acquire(0, 5, 100, 1000000));
        check.refusesState(Scenes::busy, x -> x.acquire(5, 3, 41, 9));
    }

    private void acquireOpens() {
        check.refusesState(() -> Scenes.chain(1, 2), x -> x.acquire(2, 1, 100, 9));
        check.same("99", Scenes.chain(1, 2).acquire(2, 1, 99, 9), 99);
        check.refusesState(HoldTest::ringButOne, x -> x.acquire(2, 1, 1, 9));
        check.same("the parent's last percent", ringButOne().acquire(0, 1, 1, 9), 1);
        check.refusesState(() -> Scenes.chain(1, 5), x -> x.acquire(5, 1, 100, 0));
        check.same("through the parent", Scenes.chain(0, 5).acquire(5, 0, 100, 0), 100);
    }

    private void allByOne() {
        for (int owner = 0; owner < 6; owner++) {
            for (int company = 0; company < 6; company++) {
                if (owner != company) {
                    allByOne(owner, company);
                }
            }
        }
    }

    private void allByOne(int owner, int company) {
        Groupbooks x = new Groupbooks();
        check.same("all at once", x.hold(owner, company, 100), 0);
        int other = notOneOf(owner, company);
        check.note(Check.thrownBy(x, y -> y.hold(other, company, 1))
            == IllegalStateException.class, "one percent more");
        check.same("none more", x.hold(other, company, 0), 0);
        x.hold(owner, company, 99);
        check.same("the last percent", x.hold(other, company, 1), 0);
    }

    private static int notOneOf(int one, int another) {
        for (int company = 0; company < 2; company++) {
            if (company != one && company != another) {
                return company;
            }
        }
        return 2;
    }

    private void allByFive() {
        for (int each = 0; each < 6; each++) {
            int company = each;
            int owner = company == 0 ? 5 : 0;
            int other = company == 3 ? 4 : 3;
            check.same("20 again", Scenes.fullBy(company).hold(owner, company, 20), 20);
            check.same("less", Scenes.fullBy(company).hold(owner, company, 19), 20);
            check.refusesState(() -> Scenes.fullBy(company), x -> x.hold(owner, company, 21));
            check.refusesState(() -> Scenes.fullBy(company), x -> x.acquire(other, company, 1, 9));
            Groupbooks x = Scenes.fullBy(company);
            x.hold(owner, company, 19);
            check.same("what is free", x.hold(other, company, 21), 20);
        }
    }

    private void rings() {
        for (int last = 2; last < 6; last++) {
            for (int first = 1; first < last; first++) {
                int from = first;
                int to = last;
                check.refusesState(() -> Scenes.chain(from, to), x -> x.hold(to, from, 100));
                check.same("but for one", Scenes.chain(from, to).hold(to, from, 99), 0);
            }
        }
    }

    // Company 4 is held by 3 and 5, a half each, and holds both of them wholly.
    private static Groupbooks halves() {
        Groupbooks x = new Groupbooks();
        x.hold(3, 4, 50);
        x.hold(5, 4, 50);
        x.hold(4, 3, 100);
        return x;
    }

    // Each company but the parent is held by each other one of them, a quarter, but for one
    // holding.
    private static Groupbooks quarters() {
        Groupbooks x = new Groupbooks();
        for (int owner = 1; owner < 6; owner++) {
            for (int company = 1; company < 6; company++) {
                if (owner != company && (owner != 5 || company != 1)) {
                    x.hold(owner, company, 25);
                }
            }
        }
        return x;
    }

    private void closedWithoutARing() {
        check.refusesState(HoldTest::halves, x -> x.hold(4, 5, 100));
        check.same("but for one", halves().hold(4, 5, 99), 0);
        check.refusesState(HoldTest::quarters, x -> x.hold(5, 1, 25));
        check.same("but for one", quarters().hold(5, 1, 24), 0);
        Groupbooks x = quarters();
        x.hold(5, 1, 24);
        check.same("the parent takes it", x.hold(0, 1, 1), 0);
        for (int company = 1; company < 6; company++) {
            check.same("all is the parent's", x.shareNumerator(company), 1);
            check.same("wholly", x.shareDenominator(company), 1);
        }
    }

    // A pair that is closed but for the call, with holdings of, by and beside it.
    private static Groupbooks amongOthers() {
        Groupbooks x = new Groupbooks();
        x.hold(0, 1, 80);
        x.hold(4, 1, 20);
        x.hold(3, 4, 100);
        x.hold(3, 0, 30);
        x.hold(4, 2, 60);
        x.hold(2, 5, 10);
        return x;
    }

    private void closedBesideOthers() {
        check.refusesState(HoldTest::amongOthers, x -> x.hold(4, 3, 100));
        check.refusesState(HoldTest::amongOthers, x -> x.acquire(4, 3, 100, 50));
        check.same("but for one", amongOthers().hold(4, 3, 99), 0);
        Groupbooks x = amongOthers();
        x.hold(3, 4, 99);
        check.same("closed elsewhere only", x.hold(4, 3, 100), 0);
        check.note(Check.thrownBy(x, y -> y.hold(3, 4, 100))
            == IllegalStateException.class, "the last percent");
        check.same("as it was", x.held(3, 4), 99);
        check.same("the other's last percent", x.hold(1, 4, 1), 0);
        check.same("share of 3", x.shareNumerator(3), 1);
    }

    private void determined() {
        Groupbooks x = ringButOne();
        check.same("none of it is the parent's", x.shareNumerator(1), 0);
        check.same("nor of the other", x.shareNumerator(2), 0);
        x.hold(0, 1, 1);
        check.same("all is the parent's", x.shareNumerator(2), 1);
        check.same("less is possible", x.hold(0, 1, 0), 1);
        check.same("nothing at all", x.hold(2, 1, 0), 99);
        check.same("nor of the other", x.hold(1, 2, 0), 100);
        check.same("a full chain", Scenes.chain(1, 5).hold(0, 1, 100), 0);
        check.same("all of the owner of all", Scenes.chain(0, 4).hold(5, 0, 100), 0);
    }

    private void ringsWithTheParent() {
        for (int last = 1; last < 6; last++) {
            Groupbooks x = Scenes.chain(0, last);
            check.same("closed", x.hold(last, 0, 100), 0);
            check.same("held of the parent", x.held(last, 0), 100);
            check.same("share of the last", x.shareNumerator(last), 1);
            check.same("share of the parent", x.shareDenominator(0), 1);
        }
        Groupbooks x = new Groupbooks();
        x.hold(1, 0, 100);
        x.hold(2, 1, 100);
        check.same("a ring of three", x.hold(0, 2, 50), 0);
        check.same("half", x.shareDenominator(1), 2);
        check.same("half", x.shareDenominator(2), 2);
    }
}
