/** The boundary cases of promise 18: learn; and the last of the calls that an object is used for. */
public final class LearnBoundaryTest {
    private static final Check check = new Check("LearnBoundaryTest");
    private static final int CALLS = 512;

    public static void main(String[] args) {
        kinds();
        minutes();
        severalExceptions();
        theMeanIsCutOff();
        allCallsLearn();
        theLastCall();
        check.end();
    }

    private static void kinds() {
        check.says(18, "IndexOutOfBoundsException", "of a kind 0 .. 7");
        int[] noKinds = {-1, 8, 9, -8, 256, 65536, Integer.MIN_VALUE, Integer.MAX_VALUE};
        for (int kind : noKinds) {
            check.noIndexKeeping("learn(" + kind + ", 1)", Scene::busy, x -> x.learn(kind, 1));
        }
        PriceLines x = new PriceLines();
        for (int kind = 0; kind < 8; kind++) {
            check.equal("learn(" + kind + ", ..)", x.learn(kind, 10 * kind), 10 * kind);
        }
        for (int kind = 0; kind < 8; kind++) {
            check.equal("again", x.learn(kind, 10 * kind + 3), 10 * kind + 1);
        }
    }

    private static void minutes() {
        check.says(18, "IllegalArgumentException: minutes are not 0 .. 100000");
        int[] noMinutes = {-1, 100001, -100000, 131072, Integer.MIN_VALUE, Integer.MAX_VALUE};
        for (int minutes : noMinutes) {
            check.noArgumentKeeping("learn(0, " + minutes + ")", Scene::busy, x -> x.learn(0, minutes));
            check.noArgumentKeeping("learn(3, " + minutes + ")", Scene::busy, x -> x.learn(3, minutes));
        }
        check.equal("0", new PriceLines().learn(0, 0), 0);
        check.equal("1", new PriceLines().learn(0, 1), 1);
        check.equal("99999", new PriceLines().learn(0, 99999), 99999);
        check.equal("100000", new PriceLines().learn(7, 100000), 100000);
    }

    private static void severalExceptions() {
        check.says(18, "of several exceptions the one named first is thrown");
        check.noIndexKeeping("learn(-1, -1)", Scene::busy, x -> x.learn(-1, -1));
        check.noIndexKeeping("learn(8, -1)", Scene::busy, x -> x.learn(8, -1));
        check.noIndexKeeping("learn(8, 100001)", Scene::busy, x -> x.learn(8, 100001));
    }

    private static void theMeanIsCutOff() {
        check.says(18, "how many and the sum of minutes; the mean (cut off)");
        PriceLines x = new PriceLines();
        check.equal("0", x.learn(0, 0), 0);
        check.equal("0 1", x.learn(0, 1), 0);
        check.equal("0 1 1", x.learn(0, 1), 0);
        check.equal("0 1 1 2", x.learn(0, 2), 1);
        check.equal("0 1 1 2 5: 9 of 5", x.learn(0, 5), 1);
        check.equal("and 3: 12 of 6", x.learn(0, 3), 2);
        check.equal("100000", x.learn(1, 100000), 100000);
        check.equal("100000 99999", x.learn(1, 99999), 99999);
        // The mean is of the sum, not of the mean before: 1 and 2 are 1, with 0 they are 3 of 3.
        x.learn(2, 1);
        x.learn(2, 2);
        check.equal("1 2 0", x.learn(2, 0), 1);
    }

    private static void allCallsLearn() {
        check.says(18, "how many and the sum of minutes", "at most 512 calls");
        PriceLines x = new PriceLines();
        for (int k = 1; k < CALLS; k++) {
            check.equal("call " + k, x.learn(0, 100000), 100000);
        }
        check.equal("call 512", x.learn(0, 99999), 99999);
    }

    private static void theLastCall() {
        check.says(3, "An object is used for at most 512 calls after it has been made");
        PriceLines x = new PriceLines();
        for (int k = 0; k < 270; k++) {
            check.equal("a text without a line", x.read(), -1);
        }
        Check.type(x, " ".repeat(238) + "4;");
        check.equal("call 511", x.read(), 1);
        check.equal("call 512", x.cents(), 400);
    }
}
