/** Promises 10 and 11: currency, centsAt. */
public final class CurrencyTest {
    private static final Check check = new Check("CurrencyTest");

    public static void main(String[] args) {
        rows();
        wrongRows();
        noRoom();
        centsByDay();
        largeCents();
        check.end();
    }

    private static void rows() {
        PriceLines x = new PriceLines();
        check.equal("first", x.currency(0, 1, 1000), 1);
        check.equal("second", x.currency(1, 1000, 1), 2);
        check.equal("third", x.currency(10000, 7, 7), 3);
        check.noArgument("none is behind 10000", () -> x.currency(10000, 1, 1));
    }

    private static void wrongRows() {
        PriceLines x = Check.having("9;");
        int[] noDays = {-1, 10001, Integer.MIN_VALUE, Integer.MAX_VALUE};
        for (int day : noDays) {
            check.noArgument("currency at " + day, () -> x.currency(day, 1, 1));
            check.noArgument("centsAt " + day, () -> x.centsAt(day));
        }
        int[] noRates = {0, -1, 1001, Integer.MIN_VALUE, Integer.MAX_VALUE};
        for (int rate : noRates) {
            check.noArgument("above " + rate, () -> x.currency(5, rate, 1));
            check.noArgument("below " + rate, () -> x.currency(5, 1, rate));
        }
        check.equal("refused rows are none", x.centsAt(10000), 900);
        check.equal("a row", x.currency(5, 2, 1), 1);
        check.noArgument("the same day", () -> x.currency(5, 1, 1));
        check.noArgument("an earlier day", () -> x.currency(4, 1, 1));
        check.equal("the row stays", x.centsAt(5), 1800);
        check.equal("the day behind it", x.currency(6, 1, 1), 2);
    }

    private static void noRoom() {
        PriceLines x = Check.having("1;");
        for (int k = 0; k < 8; k++) {
            check.equal("row " + k, x.currency(k * 10, k + 1, 1), k + 1);
        }
        check.noState("a ninth row", () -> x.currency(80, 1, 1));
        check.noArgument("a ninth row that is wrong", () -> x.currency(70, 1, 1));
        check.noArgument("a ninth row at no day", () -> x.currency(10001, 1, 1));
        check.noArgument("a ninth row above 0", () -> x.currency(80, 0, 1));
        for (int k = 0; k < 8; k++) {
            check.equal("centsAt at row " + k, x.centsAt(k * 10), 100 * (k + 1));
            check.equal("centsAt behind row " + k, x.centsAt(k * 10 + 9), 100 * (k + 1));
        }
    }

    private static void centsByDay() {
        PriceLines x = Check.having("a;");
        x.fact('a', 44, 100);
        check.equal("without a row", x.centsAt(0), 44);
        x.currency(10, 3, 2);
        x.currency(20, 2, 3);
        check.equal("before the first", x.centsAt(9), 44);
        check.equal("at the first", x.centsAt(10), 66);
        check.equal("the day before the second", x.centsAt(19), 66);
        check.equal("at the second, cut off", x.centsAt(20), 29);
        check.equal("at the last day", x.centsAt(10000), 29);
        x.fact('a', -44, 100);
        check.equal("below 0, FLOOR", x.centsAt(20), -30);
        check.equal("below 0, exact", x.centsAt(10), -66);
        x.forget('a');
        check.equal("of now, the line being open", x.centsAt(10), 0);
        check.equal("cents are without currency", x.cents(), 0);
    }

    private static void largeCents() {
        PriceLines x = Check.having("10000 10000*10*;");
        x.currency(0, 1000, 1);
        check.equal("the most", x.centsAt(0), 100000000000000L);
        x.currency(1, 1, 1000);
        check.equal("the least", x.centsAt(1), 100000000L);
    }
}
