/** Promises 15 to 17: invoice, left, refund. */
public final class InvoicesTest {
    private static final Check check = new Check("InvoicesTest");

    public static void main(String[] args) {
        invoicesByDay();
        invoicesThatCantBe();
        noRoom();
        refunds();
        wrongRefunds();
        moreThanAnInt();
        check.end();
    }

    private static PriceLines offering(int above, int below, int until) {
        PriceLines x = Check.having("a;");
        x.fact('a', above, below);
        x.offer(until);
        return x;
    }

    private static void invoicesByDay() {
        PriceLines x = offering(10001, 100, 15);
        x.currency(10, 3, 2);
        x.currency(15, 2, 3);
        check.equal("first", x.invoice(0, 9), 0);
        check.equal("second", x.invoice(0, 10), 1);
        check.equal("third, at the last day", x.invoice(0, 15), 2);
        check.equal("as it is", x.left(0), 10001);
        check.equal("by 3 / 2", x.left(1), 15001);
        check.equal("by 2 / 3", x.left(2), 6667);
        PriceLines y = offering(5, 1, 15);
        y.invoice(0, 12);
        y.currency(11, 7, 1);
        check.equal("a row told later changes no invoice", y.left(0), 500);
        y.invoice(0, 12);
        check.equal("but the next one", y.left(1), 3500);
    }

    private static void invoicesThatCantBe() {
        PriceLines x = offering(5, 1, 15);
        x.fact('a', -1, 100);
        x.offer(20);
        x.fact('a', 0, 1);
        x.offer(20);
        int[] noOffers = {-1, 3, 8, Integer.MIN_VALUE, Integer.MAX_VALUE};
        for (int offer : noOffers) {
            check.noIndex("offer " + offer, () -> x.invoice(offer, 1));
            check.noIndex("offer " + offer + " before the day", () -> x.invoice(offer, -1));
        }
        int[] noDays = {-1, 10001, Integer.MIN_VALUE, Integer.MAX_VALUE};
        for (int day : noDays) {
            check.noArgument("day " + day, () -> x.invoice(0, day));
        }
        check.noState("behind the last day", () -> x.invoice(0, 16));
        check.noState("below 0", () -> x.invoice(1, 1));
        x.currency(2, 1, 1000);
        check.noState("below 0 by FLOOR", () -> x.invoice(1, 2));
        check.noIndex("none was made", () -> x.left(0));
        check.equal("of 0", x.invoice(2, 20), 0);
        check.equal("left of 0", x.left(0), 0);
        check.isTrue("0 of 0", x.refund(0, 0));
        check.isFalse("1 of 0", x.refund(0, 1));
    }

    private static void noRoom() {
        PriceLines x = offering(5, 1, 15);
        for (int k = 0; k < 8; k++) {
            check.equal("invoice " + k, x.invoice(0, k), k);
            x.refund(k, k);
        }
        check.noState("a ninth", () -> x.invoice(0, 1));
        check.noArgument("a ninth at no day", () -> x.invoice(0, 10001));
        check.noIndex("a ninth of no offer", () -> x.invoice(1, 1));
        check.noIndex("none is the ninth", () -> x.left(8));
        for (int k = 0; k < 8; k++) {
            check.equal("left of " + k, x.left(k), 500 - k);
        }
    }

    private static void refunds() {
        PriceLines x = offering(5, 1, 15);
        x.invoice(0, 0);
        x.invoice(0, 0);
        check.isTrue("0", x.refund(0, 0));
        check.isTrue("200", x.refund(0, 200));
        check.equal("left", x.left(0), 300);
        check.isFalse("301", x.refund(0, 301));
        check.isFalse("the most", x.refund(0, Integer.MAX_VALUE));
        check.equal("still left", x.left(0), 300);
        check.isTrue("300", x.refund(0, 300));
        check.equal("nothing left", x.left(0), 0);
        check.isFalse("1", x.refund(0, 1));
        check.equal("the other one is whole", x.left(1), 500);
    }

    private static void wrongRefunds() {
        PriceLines x = offering(5, 1, 15);
        x.invoice(0, 0);
        int[] noInvoices = {-1, 1, 8, Integer.MIN_VALUE, Integer.MAX_VALUE};
        for (int invoice : noInvoices) {
            check.noIndex("left " + invoice, () -> x.left(invoice));
            check.noIndex("refund " + invoice, () -> x.refund(invoice, 1));
            check.noIndex("refund " + invoice + " before its cents", () -> x.refund(invoice, -1));
        }
        check.noArgument("-1", () -> x.refund(0, -1));
        check.noArgument("the least", () -> x.refund(0, Integer.MIN_VALUE));
        check.equal("all is left", x.left(0), 500);
    }

    private static void moreThanAnInt() {
        PriceLines x = Check.having("10000 10000*10*;");
        x.offer(0);
        x.currency(0, 1000, 1);
        x.invoice(0, 0);
        check.isTrue("the most", x.refund(0, Integer.MAX_VALUE));
        check.equal("left", x.left(0), 100000000000000L - Integer.MAX_VALUE);
    }
}
