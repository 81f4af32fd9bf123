// Objects in the states that tests begin with, each less than 100 calls old.
public final class Scenes {
    private Scenes() {
    }

    static Groupbooks fresh() {
        return new Groupbooks();
    }

    // Shares of 63/79 and 52/79, net values of 660 and 200.
    static Groupbooks circle() {
        Groupbooks x = new Groupbooks();
        x.hold(0, 1, 60);
        x.hold(1, 2, 70);
        x.hold(2, 1, 30);
        x.hold(0, 2, 10);
        x.setBooks(0, 5000, 2000, 3000, 0);
        x.setBooks(1, 1000, 400, 500, 100);
        x.setBooks(2, 300, 100, 250, -50);
        x.setRates(1, 110, 105, 90);
        x.claim(0, 1, 50);
        x.admit(1, 0, 45);
        return x;
    }

    // Something is told of every company. The rates are at least 100, so that each unit of the
    // books shows in what is translated.
    static Groupbooks busy() {
        Groupbooks x = new Groupbooks();
        x.setBooks(3, 800, 300, 450, 50);
        x.close();
        x.hold(0, 1, 60);
        x.hold(1, 2, 70);
        x.hold(2, 1, 30);
        x.hold(2, 0, 40);
        x.hold(3, 4, 55);
        x.hold(4, 5, 20);
        x.acquire(0, 3, 51, 900);
        x.acquire(1, 3, 9, 5);
        for (int company = 0; company < 6; company++) {
            int more = 10 * company;
            x.setBooks(company, 1000 + more, 400, 500 + more, 100);
            x.setRates(company, 100 + company, 200 + more, 300 - company);
            x.claim(company, (company + 1) % 6, 50 + more);
            x.admit((company + 1) % 6, company, 60);
        }
        x.close();
        x.setBooks(2, 700, 100, 630, -30);
        return x;
    }

    // All six companies are in the group, each other one held wholly by the parent.
    static Groupbooks whole() {
        Groupbooks x = new Groupbooks();
        for (int company = 1; company < 6; company++) {
            x.hold(0, company, 100);
        }
        return x;
    }

    // All is held of a company: 20 percent by each other one.
    static Groupbooks fullBy(int company) {
        Groupbooks x = new Groupbooks();
        for (int owner = 0; owner < 6; owner++) {
            if (owner != company) {
                x.hold(owner, company, 20);
            }
        }
        return x;
    }

    // The companies hold one another wholly in a chain, from first to last.
    static Groupbooks chain(int first, int last) {
        Groupbooks x = new Groupbooks();
        for (int company = first; company < last; company++) {
            x.hold(company, company + 1, 100);
        }
        return x;
    }

    static Groupbooks closed(int periods) {
        Groupbooks x = circle();
        for (int period = 0; period < periods; period++) {
            x.setBooks(0, 1000, 0, 900 - period, 100 + period);
            x.close();
        }
        return x;
    }
}
