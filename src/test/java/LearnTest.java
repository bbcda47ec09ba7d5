/** Promise 18: learn. */
public final class LearnTest {
    private static final Check check = new Check("LearnTest");

    public static void main(String[] args) {
        PriceLines x = new PriceLines();
        check.equal("10", x.learn(0, 10), 10);
        check.equal("10, 5 (cut off)", x.learn(0, 5), 7);
        check.equal("10, 5, 0", x.learn(0, 0), 5);
        check.equal("another kind", x.learn(7, 100000), 100000);
        check.equal("it again", x.learn(7, 99999), 99999);
        check.equal("0 alone", x.learn(3, 0), 0);
        wrongNumbers(x);
        check.equal("refused minutes are not learned", x.learn(0, 5), 5);
        PriceLines y = new PriceLines();
        for (int k = 0; k < 512; k++) {
            check.equal("always the most", y.learn(1, 100000), 100000);
        }
        check.end();
    }

    private static void wrongNumbers(PriceLines x) {
        int[] noKinds = {-1, 8, Integer.MIN_VALUE, Integer.MAX_VALUE};
        for (int kind : noKinds) {
            check.noIndex("kind " + kind, () -> x.learn(kind, 1));
            check.noIndex("kind " + kind + " before its minutes", () -> x.learn(kind, -1));
        }
        int[] noMinutes = {-1, 100001, Integer.MIN_VALUE, Integer.MAX_VALUE};
        for (int minutes : noMinutes) {
            check.noArgument("minutes " + minutes, () -> x.learn(0, minutes));
        }
    }
}
