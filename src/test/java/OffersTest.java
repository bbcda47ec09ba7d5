/** Promises 12 to 14: offer, offered, differs. */
public final class OffersTest {
    private static final Check check = new Check("OffersTest");
    private static final int[] NO_DAYS = {-1, 10001, Integer.MIN_VALUE, Integer.MAX_VALUE};

    public static void main(String[] args) {
        offersKeepTheirCents();
        offersThatCantBe();
        noRoom();
        daysOfOffers();
        differences();
        check.end();
    }

    private static void offersKeepTheirCents() {
        PriceLines x = Check.having("a;");
        x.fact('a', 7, 1);
        check.equal("first", x.offer(0), 0);
        x.fact('a', -9, 1);
        check.equal("second, below 0", x.offer(10000), 1);
        x.currency(0, 5, 1);
        x.forget('a');
        Check.read(x, "1;");
        check.equal("of the first", x.offered(0, 0), 700);
        check.equal("of the second, without currency", x.offered(1, 10000), -900);
        check.equal("of no lines", new PriceLines().offer(3), 0);
    }

    private static void offersThatCantBe() {
        PriceLines x = Check.having("5;a;");
        check.noState("an open line", () -> x.offer(1));
        for (int day : NO_DAYS) {
            check.noArgument("until " + day + " with an open line", () -> x.offer(day));
        }
        x.fact('a', 1, 1);
        for (int day : NO_DAYS) {
            check.noArgument("until " + day, () -> x.offer(day));
        }
        check.equal("none was made", x.offer(1), 0);
        check.equal("its cents", x.offered(0, 1), 600);
    }

    private static void noRoom() {
        PriceLines x = Check.having("a;");
        for (int k = 0; k < 8; k++) {
            x.fact('a', k, 1);
            check.equal("offer " + k, x.offer(k), k);
        }
        check.noState("a ninth", () -> x.offer(1));
        check.noArgument("a ninth until 10001", () -> x.offer(10001));
        check.noIndex("none is the ninth", () -> x.offered(8, 0));
        for (int k = 0; k < 8; k++) {
            check.equal("cents of " + k, x.offered(k, k), 100 * k);
        }
    }

    private static void daysOfOffers() {
        PriceLines x = Check.having("3;");
        x.offer(15);
        check.equal("day 0", x.offered(0, 0), 300);
        check.equal("the last day", x.offered(0, 15), 300);
        check.noState("the day behind", () -> x.offered(0, 16));
        check.noState("day 10000", () -> x.offered(0, 10000));
        for (int day : NO_DAYS) {
            check.noArgument("day " + day, () -> x.offered(0, day));
            check.noIndex("no offer before day " + day, () -> x.offered(1, day));
        }
        int[] noOffers = {-1, 1, 8, Integer.MIN_VALUE, Integer.MAX_VALUE};
        for (int offer : noOffers) {
            check.noIndex("offer " + offer, () -> x.offered(offer, 0));
            check.noIndex("differs " + offer, () -> x.differs(offer, 0));
            check.noIndex("differs from " + offer, () -> x.differs(0, offer));
        }
    }

    private static void differences() {
        PriceLines x = Check.having("a;");
        x.fact('a', 1000000, 1);
        x.offer(0);
        x.fact('a', -7, 3);
        x.offer(5);
        check.equal("the first less the second", x.differs(0, 1), 100000233);
        check.equal("the second less the first", x.differs(1, 0), -100000233);
        check.equal("from itself", x.differs(1, 1), 0);
    }
}
