/** The boundary cases of promises 15 to 17: invoice, left, refund. */
public final class InvoicesBoundaryTest {
    private static final Check check = new Check("InvoicesBoundaryTest");
    private static final int[] NO_DAYS = {-1, 10001, -10000, 65536, Integer.MIN_VALUE, Integer.MAX_VALUE};
    private static final int[] NO_INVOICES = {-1, 2, 3, 7, 8, Integer.MIN_VALUE, Integer.MAX_VALUE};
    private static final String LIMIT = "10000 10000*10*";

    public static void main(String[] args) {
        offersOfInvoice();
        daysOfInvoice();
        eightInvoices();
        theLastDay();
        belowZero();
        currencyOfThatDay();
        severalExceptions();
        invoicesThatAreLeft();
        whatIsLeft();
        invoicesOfRefund();
        centsOfRefund();
        neverMoreThanIt();
        largeInvoices();
        check.end();
    }

    /** An offer of so many cents, and no more. */
    private static PriceLines offering(int cents, int until) {
        PriceLines x = Check.having("a;");
        x.fact('a', cents, 100);
        x.offer(until);
        return x;
    }

    private static PriceLines invoiced(int cents) {
        PriceLines x = offering(cents, 0);
        x.invoice(0, 0);
        return x;
    }

    private static void offersOfInvoice() {
        check.says(15, "IndexOutOfBoundsException: no such offer");
        int[] noOffers = {-1, 3, 4, 7, 8, Integer.MIN_VALUE, Integer.MAX_VALUE};
        for (int offer : noOffers) {
            check.noIndexKeeping("invoice(" + offer + ", 0)", Scene::owing, x -> x.invoice(offer, 0));
        }
        PriceLines x = Check.having("a;");
        for (int k = 0; k < 8; k++) {
            x.fact('a', k + 1, 1);
            x.offer(0);
        }
        check.noIndex("invoice(8, 0) of 8 offers", () -> x.invoice(8, 0));
        check.equal("of the last offer", x.invoice(7, 0), 0);
        check.equal("what is left of it", x.left(0), 800);
        check.equal("of the first offer", x.invoice(0, 0), 1);
        check.equal("what is left of it", x.left(1), 100);
    }

    private static void daysOfInvoice() {
        check.says(15, "day is not 0 .. 10000");
        for (int day : NO_DAYS) {
            check.noArgumentKeeping("invoice(0, " + day + ")", Scene::owing, x -> x.invoice(0, day));
        }
        PriceLines x = offering(300, 10000);
        check.equal("day 0", x.invoice(0, 0), 0);
        check.equal("day 10000", x.invoice(0, 10000), 1);
        check.noArgument("day 10001", () -> x.invoice(0, 10001));
        check.equal("none was made by that", x.invoice(0, 1), 2);
    }

    private static void eightInvoices() {
        check.says(15, "An INVOICE: its number", "IllegalStateException: there are 8", "INVOICES, 8 at most");
        PriceLines x = offering(300, 5);
        for (int k = 0; k < 8; k++) {
            check.equal("invoice " + k, x.invoice(0, 5), k);
        }
        check.equal("the eighth", x.left(7), 300);
        check.noState("a ninth", () -> x.invoice(0, 5));
        check.noIndex("is not there", () -> x.left(8));
        check.noStateKeeping("invoice(0, 0) of 8", Scene::full, y -> y.invoice(0, 0));
        check.noStateKeeping("invoice(7, 107) of 8", Scene::full, y -> y.invoice(7, 107));
        PriceLines refunded = Scene.full();
        refunded.refund(0, (int) refunded.left(0));
        check.noState("one that is wholly refunded still counts", () -> refunded.invoice(0, 0));
    }

    private static void theLastDay() {
        check.says(15, "or it is behind the last day", "at a day (not behind its last one)");
        check.equal("the last day", Scene.owing().invoice(1, 101), 2);
        check.noStateKeeping("the day behind it", Scene::owing, x -> x.invoice(1, 102));
        check.noStateKeeping("day 10000", Scene::owing, x -> x.invoice(1, 10000));
        PriceLines zero = offering(300, 0);
        check.noState("until 0, at day 1", () -> zero.invoice(0, 1));
        check.equal("until 0, at day 0", zero.invoice(0, 0), 0);
        PriceLines late = offering(300, 9999);
        check.noState("until 9999, at day 10000", () -> late.invoice(0, 10000));
        check.equal("until 9999, at day 9999", late.invoice(0, 9999), 0);
    }

    private static void belowZero() {
        check.says(15, "or it would be below 0");
        check.noStateKeeping("an offer below 0", Scene::owing, x -> x.invoice(2, 0));
        check.noStateKeeping("an offer below 0 with a currency", Scene::owing, x -> x.invoice(2, 20));
        check.noStateKeeping("-1 cent", () -> offering(-1, 5), x -> x.invoice(0, 0));
        check.equal("0 cents", offering(0, 5).invoice(0, 0), 0);
        check.equal("1 cent", offering(1, 5).invoice(0, 0), 0);
        check.noStateKeeping("a thousandth of -1 is -1 (FLOOR)", () -> {
            PriceLines x = offering(-1, 5);
            x.currency(0, 1, 1000);
            return x;
        }, x -> x.invoice(0, 0));
        PriceLines small = offering(1, 5);
        small.currency(0, 1, 1000);
        check.equal("a thousandth of 1", small.invoice(0, 0), 0);
        check.equal("is 0", small.left(0), 0);
        check.noStateKeeping("a half cent and more below 0", () -> {
            PriceLines x = Check.having("0 51 10000/-;");
            x.offer(0);
            return x;
        }, x -> x.invoice(0, 0));
        PriceLines half = Check.having("0 50 10000/-;");
        half.offer(0);
        check.equal("half a cent below 0 are 0 CENTS", half.invoice(0, 0), 0);
    }

    private static void currencyOfThatDay() {
        check.says(15, "with the currency of that day");
        PriceLines x = offering(301, 30);
        x.currency(10, 3, 2);
        x.currency(20, 1, 2);
        int[] days = {0, 9, 10, 19, 20, 30};
        int[] due = {301, 301, 451, 451, 150, 150};
        for (int k = 0; k < days.length; k++) {
            check.equal("invoice at " + days[k], x.invoice(0, days[k]), k);
            check.equal("left of that at " + days[k], x.left(k), due[k]);
        }
        PriceLines later = offering(301, 30);
        later.invoice(0, 10);
        later.currency(10, 3, 2);
        check.equal("a row of that day that comes later", later.left(0), 301);
        later.invoice(0, 10);
        check.equal("counts for the next one", later.left(1), 451);
    }

    private static void severalExceptions() {
        check.says(15, "of several exceptions the one named first is thrown");
        for (int day : NO_DAYS) {
            check.noIndexKeeping("invoice(3, " + day + ")", Scene::owing, x -> x.invoice(3, day));
            check.noIndexKeeping("invoice(8, " + day + ") of 8", Scene::full, x -> x.invoice(8, day));
            check.noArgumentKeeping("invoice(2, " + day + ") below 0", Scene::owing, x -> x.invoice(2, day));
            check.noArgumentKeeping("invoice(0, " + day + ") of 8", Scene::full, x -> x.invoice(0, day));
        }
        check.noIndexKeeping("no offer, at a late day", Scene::owing, x -> x.invoice(3, 10000));
        check.noIndexKeeping("no offer, of 8", Scene::full, x -> x.invoice(8, 0));
        check.noStateKeeping("below 0 and behind the last day", Scene::owing, x -> x.invoice(2, 103));
        check.noStateKeeping("of 8 and behind the last day", Scene::full, x -> x.invoice(0, 101));
    }

    private static void invoicesThatAreLeft() {
        check.says(16, "IndexOutOfBoundsException", "there is no such line, fact, offer, invoice");
        for (int invoice : NO_INVOICES) {
            check.noIndexKeeping("left(" + invoice + ")", Scene::owing, x -> x.left(invoice));
        }
        check.noIndexKeeping("left(8) of 8", Scene::full, x -> x.left(8));
        check.noIndexKeeping("left(-1) of 8", Scene::full, x -> x.left(-1));
        PriceLines x = Check.having("a;");
        for (int k = 0; k < 8; k++) {
            x.fact('a', k + 1, 1);
            x.offer(0);
            x.invoice(k, 0);
        }
        for (int k = 0; k < 8; k++) {
            check.equal("left(" + k + ")", x.left(k), 100 * (k + 1));
        }
    }

    private static void whatIsLeft() {
        check.says(16, "What is left of an INVOICE behind REFUNDS");
        PriceLines x = invoiced(500);
        check.equal("behind none", x.left(0), 500);
        x.refund(0, 0);
        check.equal("behind 0", x.left(0), 500);
        x.refund(0, 1);
        check.equal("behind 1", x.left(0), 499);
        x.refund(0, 498);
        check.equal("behind 499", x.left(0), 1);
        x.refund(0, 2);
        check.equal("behind one that was too much", x.left(0), 1);
        x.refund(0, 1);
        check.equal("behind all", x.left(0), 0);
    }

    private static void invoicesOfRefund() {
        check.says(17, "IndexOutOfBoundsException", "there is no such line, fact, offer, invoice");
        for (int invoice : NO_INVOICES) {
            check.noIndexKeeping("refund(" + invoice + ", 0)", Scene::owing, x -> x.refund(invoice, 0));
            check.noIndexKeeping("refund(" + invoice + ", 1)", Scene::owing, x -> x.refund(invoice, 1));
        }
        check.noIndexKeeping("refund(8, 1) of 8", Scene::full, x -> x.refund(8, 1));
        PriceLines x = Scene.full();
        long first = x.left(0);
        long last = x.left(7);
        check.isTrue("refund(7, 1) of 8", x.refund(7, 1));
        check.equal("of the last one", x.left(7), last - 1);
        check.equal("not of the first one", x.left(0), first);
        check.says(17, "of several exceptions the one named first is thrown");
        for (int invoice : NO_INVOICES) {
            check.noIndexKeeping("refund(" + invoice + ", -1)", Scene::owing, y -> y.refund(invoice, -1));
        }
    }

    private static void centsOfRefund() {
        check.says(17, "IllegalArgumentException: cents are below 0");
        int[] below = {-1, -2, -500, Integer.MIN_VALUE, Integer.MIN_VALUE + 1};
        for (int cents : below) {
            check.noArgumentKeeping("refund(0, " + cents + ")", Scene::owing, x -> x.refund(0, cents));
        }
        check.isTrue("0 cents", invoiced(500).refund(0, 0));
        check.isTrue("0 cents of 0", invoiced(0).refund(0, 0));
        check.isFalse("1 cent of 0", invoiced(0).refund(0, 1));
        check.isFalse("the most cents", invoiced(500).refund(0, Integer.MAX_VALUE));
    }

    private static void neverMoreThanIt() {
        check.says(17, "A REFUND: whether so much was left", "REFUNDS of them are together never more than it");
        check.isTrue("all of it", invoiced(500).refund(0, 500));
        check.isTrue("one less", invoiced(500).refund(0, 499));
        check.isFalse("one more", invoiced(500).refund(0, 501));
        PriceLines x = Scene.owing();
        check.isFalse("too much", x.refund(0, 100000));
        check.same("too much changed", Scene.look(x), Scene.look(Scene.owing()));
        PriceLines several = invoiced(500);
        check.isTrue("200", several.refund(0, 200));
        check.isFalse("301 more", several.refund(0, 301));
        check.isTrue("300 more", several.refund(0, 300));
        check.isFalse("1 more", several.refund(0, 1));
        check.isTrue("0 more", several.refund(0, 0));
        check.equal("nothing is left", several.left(0), 0);
    }

    private static void largeInvoices() {
        check.says(17, "boolean refund(int invoice, int cents)", "long left(int invoice)");
        PriceLines x = Check.having(LIMIT + ";");
        x.currency(0, 1000, 1);
        x.offer(0);
        x.invoice(0, 0);
        check.equal("the most", x.left(0), 100000000000000L);
        check.isTrue("the most cents", x.refund(0, Integer.MAX_VALUE));
        check.isTrue("again", x.refund(0, Integer.MAX_VALUE));
        check.isTrue("again", x.refund(0, Integer.MAX_VALUE));
        check.equal("what is left", x.left(0), 100000000000000L - 3L * Integer.MAX_VALUE);
        // Half of 4294967295 cents, by FLOOR.
        PriceLines y = Check.having("42949 1000*672+19 20/+;");
        y.currency(0, 1, 2);
        y.offer(0);
        y.invoice(0, 0);
        check.equal("just the most cents of a refund", y.left(0), Integer.MAX_VALUE);
        check.isTrue("all of it", y.refund(0, Integer.MAX_VALUE));
        check.equal("nothing is left", y.left(0), 0);
    }
}
