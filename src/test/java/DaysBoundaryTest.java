/** The boundary cases of promises 10 to 14: currency, centsAt, offer, offered, differs. */
public final class DaysBoundaryTest {
    private static final Check check = new Check("DaysBoundaryTest");
    private static final int[] NO_DAYS = {-1, 10001, -10000, 65536, Integer.MIN_VALUE, Integer.MAX_VALUE};
    private static final int[] NO_RATES = {0, -1, 1001, -1000, 65537, Integer.MIN_VALUE, Integer.MAX_VALUE};
    private static final String LIMIT = "10000 10000*10*";

    public static void main(String[] args) {
        daysOfCurrency();
        eachBehindTheOneBefore();
        ratesOfCurrency();
        eightRows();
        daysOfCentsAt();
        theLastRowNotBehind();
        floorOfCents();
        centsOfNow();
        daysOfOffer();
        eightOffers();
        offersOfOpenLines();
        offersKeepCents();
        offersThatAreThere();
        daysOfOffered();
        theLastDay();
        withoutCurrency();
        offersThatDiffer();
        check.end();
    }

    private static void daysOfCurrency() {
        check.says(10, "day is not 0 .. 10000");
        for (int day : NO_DAYS) {
            check.noArgumentKeeping("currency(" + day + ", 1, 1)", Scene::busy, x -> x.currency(day, 1, 1));
            check.noArgumentKeeping("the first row at " + day, PriceLines::new, x -> x.currency(day, 1, 1));
        }
        PriceLines x = Check.having("1;");
        check.equal("day 0", x.currency(0, 2, 1), 1);
        check.equal("day 9999", x.currency(9999, 3, 1), 2);
        check.equal("day 10000", x.currency(10000, 4, 1), 3);
        check.equal("centsAt 0", x.centsAt(0), 200);
        check.equal("centsAt 9999", x.centsAt(9999), 300);
        check.equal("centsAt 10000", x.centsAt(10000), 400);
    }

    private static void eachBehindTheOneBefore() {
        check.says(10, "or not behind the one before", "a day (each behind the one before)");
        int[] notBehind = {20, 19, 15, 10, 0};
        for (int day : notBehind) {
            check.noArgumentKeeping("currency(" + day + ", 1, 1) behind 20", Scene::busy, x -> x.currency(day, 1, 1));
        }
        PriceLines next = Scene.busy();
        check.equal("the day 21", next.currency(21, 1, 1), 3);
        PriceLines first = new PriceLines();
        check.equal("day 0 as the first", first.currency(0, 1, 1), 1);
        check.noArgument("day 0 again", () -> first.currency(0, 1, 1));
        check.equal("day 1", first.currency(1, 1, 1), 2);
        PriceLines last = new PriceLines();
        last.currency(10000, 1, 1);
        check.noArgument("day 10000 again", () -> last.currency(10000, 1, 1));
        check.noArgument("no day is behind 10000", () -> last.currency(10001, 1, 1));
    }

    private static void ratesOfCurrency() {
        check.says(10, "or above or below not 1 .. 1000");
        for (int rate : NO_RATES) {
            check.noArgumentKeeping("currency(21, " + rate + ", 1)", Scene::busy, x -> x.currency(21, rate, 1));
            check.noArgumentKeeping("currency(21, 1, " + rate + ")", Scene::busy, x -> x.currency(21, 1, rate));
            check.noArgumentKeeping("currency(21, " + rate + ", " + rate + ")", Scene::busy,
                x -> x.currency(21, rate, rate));
        }
        rated(1, 1, 1000);
        rated(1000, 1, 1000000);
        rated(999, 1, 999000);
        rated(1, 1000, 1);
        rated(1, 999, 1);
        rated(1000, 1000, 1000);
    }

    private static void rated(int above, int below, long due) {
        PriceLines x = Check.having("10;");
        check.equal("currency(5, " + above + ", " + below + ")", x.currency(5, above, below), 1);
        check.equal("1000 cents by " + above + " / " + below, x.centsAt(5), due);
    }

    private static void eightRows() {
        check.says(10, "how many there are", "IllegalStateException: there are 8", "CURRENCY rows, 8 at most");
        PriceLines x = Check.having("1;");
        for (int k = 1; k <= 8; k++) {
            check.equal("row " + k, x.currency(k, k, 1), k);
        }
        check.equal("the eighth counts", x.centsAt(8), 800);
        check.noState("a ninth", () -> x.currency(9, 9, 1));
        check.noStateKeeping("currency(81, 1, 1) of 8", Scene::full, y -> y.currency(81, 1, 1));
        check.noStateKeeping("currency(10000, 1000, 1000) of 8", Scene::full, y -> y.currency(10000, 1000, 1000));
        check.says(10, "of several exceptions the one named first is thrown");
        check.noArgumentKeeping("a ninth at day 80", Scene::full, y -> y.currency(80, 1, 1));
        check.noArgumentKeeping("a ninth at day 79", Scene::full, y -> y.currency(79, 1, 1));
        check.noArgumentKeeping("a ninth at day -1", Scene::full, y -> y.currency(-1, 1, 1));
        check.noArgumentKeeping("a ninth at day 10001", Scene::full, y -> y.currency(10001, 1, 1));
        check.noArgumentKeeping("a ninth above 0", Scene::full, y -> y.currency(81, 0, 1));
        check.noArgumentKeeping("a ninth above 1001", Scene::full, y -> y.currency(81, 1001, 1));
        check.noArgumentKeeping("a ninth below 0", Scene::full, y -> y.currency(81, 1, 0));
        check.noArgumentKeeping("a ninth below 1001", Scene::full, y -> y.currency(81, 1, 1001));
    }

    private static void daysOfCentsAt() {
        check.says(11, "IllegalArgumentException: day is not 0 .. 10000");
        for (int day : NO_DAYS) {
            check.noArgumentKeeping("centsAt(" + day + ")", Scene::busy, x -> x.centsAt(day));
            check.noArgumentKeeping("centsAt(" + day + ") without lines", PriceLines::new, x -> x.centsAt(day));
        }
        PriceLines x = Check.having("3;");
        check.equal("centsAt(0)", x.centsAt(0), 300);
        check.equal("centsAt(10000)", x.centsAt(10000), 300);
        check.equal("no lines", new PriceLines().centsAt(0), 0);
    }

    private static void theLastRowNotBehind() {
        check.says(11, "by the last row not behind it", "as they are without one");
        PriceLines x = Check.having("1;");
        check.equal("no row", x.centsAt(10000), 100);
        x.currency(10, 2, 1);
        x.currency(11, 3, 1);
        x.currency(20, 4, 1);
        int[] days = {0, 9, 10, 11, 12, 19, 20, 21, 10000};
        int[] due = {100, 100, 200, 300, 300, 300, 400, 400, 400};
        for (int k = 0; k < days.length; k++) {
            check.equal("centsAt(" + days[k] + ")", x.centsAt(days[k]), due[k]);
        }
        PriceLines zero = Check.having("1;");
        zero.currency(0, 5, 1);
        check.equal("a row of day 0 at day 0", zero.centsAt(0), 500);
        PriceLines eight = Check.having("1;");
        for (int k = 0; k < 8; k++) {
            eight.currency(10 * k + 5, k + 2, 1);
        }
        for (int k = 0; k < 8; k++) {
            check.equal("the day before row " + k, eight.centsAt(10 * k + 4), 100 * (k + 1));
            check.equal("the day of row " + k, eight.centsAt(10 * k + 5), 100 * (k + 2));
        }
    }

    private static void floorOfCents() {
        check.says(11, "CENTS * above / below (FLOOR)");
        int[] cents = {0, 1, 2, 3, -1, -2, -3, 999, 1000, 1001, -999, -1000, -1001};
        int[] thirds = {0, 0, 0, 1, -1, -1, -1, 333, 333, 333, -333, -334, -334};
        int[] thousandths = {0, 0, 0, 0, -1, -1, -1, 0, 1, 1, -1, -1, -2};
        PriceLines x = Check.having("a;");
        x.currency(3, 1, 3);
        x.currency(1000, 1, 1000);
        for (int k = 0; k < cents.length; k++) {
            x.fact('a', cents[k], 100);
            check.equal("a third of " + cents[k], x.centsAt(3), thirds[k]);
            check.equal("a thousandth of " + cents[k], x.centsAt(1000), thousandths[k]);
        }
        PriceLines y = Check.having("1 200/;");
        y.currency(0, 1000, 999);
        check.equal("the CENTS, not the TOTAL, are taken: 1 by 1000 / 999", y.centsAt(0), 1);
        check.says(11, "long centsAt(int day)");
        PriceLines most = Check.having(LIMIT + ";");
        most.currency(0, 1000, 1);
        check.equal("the most", most.centsAt(0), 100000000000000L);
        PriceLines least = Check.having("0 " + LIMIT + "-;");
        least.currency(0, 1000, 1);
        check.equal("the least", least.centsAt(0), -100000000000000L);
    }

    private static void centsOfNow() {
        check.says(11, "CENTS of now at a day");
        PriceLines x = Check.having("a;5;");
        x.currency(0, 2, 1);
        check.equal("a is not told", x.centsAt(0), 1000);
        x.fact('a', 1, 1);
        check.equal("a is 1", x.centsAt(0), 1200);
        x.forget('a');
        check.equal("a is forgotten", x.centsAt(0), 1000);
        Check.read(x, "1;");
        check.equal("other lines", x.centsAt(0), 200);
        check.equal("cents are without currency", x.cents(), 100);
    }

    private static void daysOfOffer() {
        check.says(12, "until is not 0 .. 10000");
        for (int day : NO_DAYS) {
            check.noArgumentKeeping("offer(" + day + ")", Scene::owing, x -> x.offer(day));
        }
        PriceLines x = Check.having("3;");
        check.equal("offer(0)", x.offer(0), 0);
        check.equal("offer(10000)", x.offer(10000), 1);
        check.equal("the first at day 0", x.offered(0, 0), 300);
        check.equal("the second at day 10000", x.offered(1, 10000), 300);
        check.says(12, "of several exceptions the one named first is thrown");
        for (int day : NO_DAYS) {
            check.noArgumentKeeping("offer(" + day + ") with an OPEN line", Scene::busy, y -> y.offer(day));
            check.noArgumentKeeping("offer(" + day + ") of 8", Scene::full, y -> y.offer(day));
        }
    }

    private static void eightOffers() {
        check.says(12, "An OFFER: its number", "IllegalStateException: there are 8", "OFFERS, 8 at most");
        PriceLines x = Check.having("a;");
        for (int k = 0; k < 8; k++) {
            x.fact('a', k + 1, 1);
            check.equal("offer " + k, x.offer(k), k);
        }
        check.equal("the eighth", x.offered(7, 7), 800);
        check.noState("a ninth", () -> x.offer(8));
        check.noIndex("is not there", () -> x.offered(8, 0));
        check.noStateKeeping("offer(0) of 8", Scene::full, y -> y.offer(0));
        check.noStateKeeping("offer(10000) of 8", Scene::full, y -> y.offer(10000));
    }

    private static void offersOfOpenLines() {
        check.says(12, "or a line is OPEN");
        check.noStateKeeping("the second line is OPEN", Scene::busy, x -> x.offer(0));
        String[] texts = {"a;", "1 0/;", LIMIT + "1+;", LIMIT + ";1;", "1;".repeat(15) + "a;", "a;" + "1;".repeat(15)};
        for (String text : texts) {
            check.noStateKeeping("an offer of " + text, () -> Check.having(text), x -> x.offer(5));
        }
        check.equal("16 lines, none of them OPEN", Check.having("1;".repeat(16)).offer(5), 0);
        check.equal("no lines", new PriceLines().offer(5), 0);
        PriceLines told = Check.having("a;");
        told.fact('a', 0, 1);
        check.equal("a fact that is 0", told.offer(5), 0);
    }

    private static void offersKeepCents() {
        check.says(12, "keep CENTS of now and a last day");
        PriceLines x = Check.having("a;");
        x.fact('a', 1, 200);
        x.offer(3);
        x.fact('a', -1, 200);
        x.offer(4);
        x.fact('a', -151, 10000);
        x.offer(5);
        x.forget('a');
        Check.read(x, "99;");
        check.equal("half a cent", x.offered(0, 3), 1);
        check.equal("half a cent below 0", x.offered(1, 4), 0);
        check.equal("more than one and a half below 0", x.offered(2, 5), -2);
        PriceLines none = new PriceLines();
        none.offer(0);
        check.equal("of no lines", none.offered(0, 0), 0);
    }

    private static void offersThatAreThere() {
        check.says(13, "there is no such line, fact, offer", "IndexOutOfBoundsException");
        int[] noOffers = {-1, 3, 4, 7, 8, 9, Integer.MIN_VALUE, Integer.MAX_VALUE};
        for (int offer : noOffers) {
            check.noIndexKeeping("offered(" + offer + ", 0)", Scene::owing, x -> x.offered(offer, 0));
        }
        check.noIndexKeeping("offered(8, 0) of 8", Scene::full, x -> x.offered(8, 0));
        check.noIndexKeeping("offered(-1, 0) of 8", Scene::full, x -> x.offered(-1, 0));
        PriceLines x = Check.having("a;");
        for (int k = 0; k < 8; k++) {
            x.fact('a', k + 1, 1);
            x.offer(k);
        }
        for (int k = 0; k < 8; k++) {
            check.equal("offered(" + k + ", 0)", x.offered(k, 0), 100 * (k + 1));
        }
    }

    private static void daysOfOffered() {
        check.says(13, "day is not 0 .. 10000");
        for (int day : NO_DAYS) {
            check.noArgumentKeeping("offered(0, " + day + ")", Scene::owing, x -> x.offered(0, day));
        }
        PriceLines x = Check.having("3;");
        x.offer(10000);
        check.equal("day 0", x.offered(0, 0), 300);
        check.equal("day 10000", x.offered(0, 10000), 300);
        check.noArgument("day 10001", () -> x.offered(0, 10001));
        check.says(13, "of several exceptions the one named first is thrown");
        for (int day : NO_DAYS) {
            check.noIndexKeeping("offered(-1, " + day + ")", Scene::owing, y -> y.offered(-1, day));
            check.noIndexKeeping("offered(3, " + day + ")", Scene::owing, y -> y.offered(3, day));
        }
        check.noIndexKeeping("no offer, at a late day", Scene::owing, y -> y.offered(3, 10000));
    }

    private static void theLastDay() {
        check.says(13, "IllegalStateException: it is behind the last day");
        PriceLines x = Scene.owing();
        check.equal("the last day of offer 1", x.offered(1, 101), x.offered(1, 0));
        check.noStateKeeping("the day behind it", Scene::owing, y -> y.offered(1, 102));
        check.noStateKeeping("day 10000", Scene::owing, y -> y.offered(1, 10000));
        check.equal("that day of offer 2", x.offered(2, 102), x.offered(2, 0));
        PriceLines zero = Check.having("3;");
        zero.offer(0);
        check.equal("until 0, at day 0", zero.offered(0, 0), 300);
        check.noState("until 0, at day 1", () -> zero.offered(0, 1));
        zero.offer(9999);
        check.equal("until 9999, at day 9999", zero.offered(1, 9999), 300);
        check.noState("until 9999, at day 10000", () -> zero.offered(1, 10000));
    }

    private static void withoutCurrency() {
        check.says(13, "(as they are, without currency)");
        PriceLines x = Check.having("3;");
        x.currency(0, 2, 1);
        x.offer(10);
        x.currency(5, 3, 1);
        for (int day = 0; day <= 10; day++) {
            check.equal("day " + day, x.offered(0, day), 300);
        }
    }

    private static void offersThatDiffer() {
        check.says(14, "CENTS of an OFFER less those of another one. IndexOutOfBoundsException");
        int[] noOffers = {-1, 3, 8, Integer.MIN_VALUE, Integer.MAX_VALUE};
        for (int offer : noOffers) {
            check.noIndexKeeping("differs(" + offer + ", 0)", Scene::owing, x -> x.differs(offer, 0));
            check.noIndexKeeping("differs(0, " + offer + ")", Scene::owing, x -> x.differs(0, offer));
            check.noIndexKeeping("differs(" + offer + ", " + offer + ")", Scene::owing, x -> x.differs(offer, offer));
        }
        check.noIndexKeeping("differs(7, 8) of 8", Scene::full, x -> x.differs(7, 8));
        check.noIndexKeeping("differs(8, 7) of 8", Scene::full, x -> x.differs(8, 7));
        PriceLines x = Check.having("a 1000*;");
        x.fact('a', 1000000, 1);
        x.offer(0);
        x.fact('a', -1000000, 1);
        x.offer(0);
        check.equal("the most less the least", x.differs(0, 1), 200000000000L);
        check.equal("the least less the most", x.differs(1, 0), -200000000000L);
        check.equal("the first of itself", x.differs(0, 0), 0);
        check.equal("the last of itself", x.differs(1, 1), 0);
        x.fact('a', -999999, 1);
        check.equal("the third", x.offer(0), 2);
        check.equal("the last less the one before", x.differs(2, 1), 100000);
        PriceLines eight = Check.having("a;");
        for (int k = 0; k < 8; k++) {
            eight.fact('a', k * k, 100);
            eight.offer(0);
        }
        check.equal("the eighth less the first", eight.differs(7, 0), 49);
        check.equal("the first less the eighth", eight.differs(0, 7), -49);
    }
}
