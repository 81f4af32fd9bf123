// All that can be asked of an object, as one text. It takes 138 calls.
public final class Snapshot {
    private Snapshot() {
    }

    static String of(Groupbooks books) {
        StringBuilder text = new StringBuilder();
        for (int company = 0; company < 6; company++) {
            addCompany(text, books, company);
            for (int other = 0; other < 6; other++) {
                add(text, books.held(company, other));
                if (other != company) {
                    add(text, books.difference(company, other));
                }
            }
        }
        add(text, books.group());
        add(text, books.eliminated());
        add(text, books.assets());
        add(text, books.debts());
        add(text, books.equity());
        add(text, books.result());
        addPeriods(text, books);
        return text.toString();
    }

    private static void addCompany(StringBuilder text, Groupbooks books, int company) {
        add(text, books.shareNumerator(company));
        add(text, books.shareDenominator(company));
        add(text, books.shareByRounds(company, 7));
        add(text, books.goodwill(company));
        add(text, books.netValue(company));
        add(text, books.translatedEquity(company));
        add(text, books.translatedResult(company));
        add(text, books.reserve(company));
        add(text, books.minority(company));
    }

    private static void addPeriods(StringBuilder text, Groupbooks books) {
        for (int period = 0; period < 12; period++) {
            try {
                add(text, books.resultOf(period));
            } catch (IllegalArgumentException thrown) {
                text.append("open ");
            }
        }
    }

    static void add(StringBuilder text, long answer) {
        text.append(answer).append(' ');
    }
}
