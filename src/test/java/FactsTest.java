/** Promises 4, 5 and 9: fact, forget, changed. */
public final class FactsTest {
    private static final Check check = new Check("FactsTest");
    private static final int[] NO_LETTERS = {96, 123, 'r', 'A', 0, -1, Integer.MIN_VALUE, Integer.MAX_VALUE};

    public static void main(String[] args) {
        everyLetter();
        edgesOfNumbers();
        wrongNumbers();
        forgetting();
        changing();
        changingWrongly();
        check.end();
    }

    private static void everyLetter() {
        for (char c = 'a'; c <= 'z'; c++) {
            if (c != 'r') {
                PriceLines x = Check.having(c + ";");
                check.line("before " + c, x, 0, Check.isOpen(1, 0));
                x.fact(c, c, 7);
                check.equal("open behind " + c, x.run(), 0);
                long divisor = c % 7 == 0 ? 7 : 1;
                check.line("behind " + c, x, 0, Check.adds(c / divisor, 7 / divisor));
            }
        }
    }

    private static void edgesOfNumbers() {
        PriceLines x = Check.having("a;");
        x.fact('a', 1000000, 10000);
        check.equal("1000000 / 10000", x.cents(), 10000);
        x.fact('a', -1000000, 1);
        check.equal("-1000000 / 1", x.cents(), -100000000);
        x.fact('a', 0, 10000);
        check.line("0 / 10000", x, 0, Check.adds(0, 1));
    }

    private static void wrongNumbers() {
        PriceLines x = Check.having("a;");
        x.fact('a', 5, 2);
        for (int letter : NO_LETTERS) {
            check.noIndex("fact of " + letter, () -> x.fact(letter, 1, 1));
            check.noIndex("fact of " + letter + " before its numbers", () -> x.fact(letter, 1, 0));
        }
        int[] wrongBelow = {0, -1, 10001, Integer.MIN_VALUE, Integer.MAX_VALUE};
        for (int below : wrongBelow) {
            check.noArgument("fact below " + below, () -> x.fact('a', 1, below));
        }
        int[] wrongAbove = {1000001, -1000001, Integer.MIN_VALUE, Integer.MAX_VALUE};
        for (int above : wrongAbove) {
            check.noArgument("fact above " + above, () -> x.fact('a', above, 1));
        }
        check.equal("the fact stays", x.cents(), 250);
        check.isFalse("b is not told by refused calls", x.forget('b'));
    }

    private static void forgetting() {
        PriceLines x = Check.having("a;b;");
        for (int letter : NO_LETTERS) {
            check.noIndex("forget of " + letter, () -> x.forget(letter));
        }
        check.isFalse("forget a, not told", x.forget('a'));
        x.fact('a', 3, 1);
        x.fact('b', 0, 1);
        check.isTrue("forget a", x.forget('a'));
        check.isFalse("forget a again", x.forget('a'));
        check.line("a is not told", x, 0, Check.isOpen(1, 0));
        check.isTrue("forget b, which is 0", x.forget('b'));
        check.equal("both open", x.run(), 2);
        x.fact('a', 4, 1);
        check.equal("a told again", x.cents(), 400);
    }

    private static void changing() {
        PriceLines x = Check.having("a 3*;10%");
        check.equal("a is not told: all of it", x.changed('a', 1, 1), 330);
        check.line("a is still not told", x, 0, Check.isOpen(1, 0));
        check.isFalse("and can't be forgotten", x.forget('a'));
        x.fact('a', 5, 2);
        check.equal("5/2 to 3", x.changed('a', 6, 2), 165);
        check.equal("5/2 to -1", x.changed('a', -1, 1), -1155);
        check.equal("5/2 to itself", x.changed('a', 5, 2), 0);
        check.equal("a fact without a line", x.changed('b', 5, 2), 0);
        check.equal("the cents stay", x.cents(), 825);
        check.line("the fact stays", x, 0, Check.adds(15, 2));
        PriceLines y = Check.having("7 a/;1;");
        y.fact('a', 2, 1);
        check.equal("a change that opens a line", y.changed('a', 0, 1), -350);
        check.equal("no line is open", y.run(), 0);
        PriceLines z = Check.having("a;");
        z.fact('a', 1, 200);
        check.equal("cents are rounded before they are taken off", z.changed('a', 1, 201), -1);
    }

    private static void changingWrongly() {
        PriceLines x = Check.having("a;");
        x.fact('a', 5, 2);
        for (int letter : NO_LETTERS) {
            check.noIndex("changed of " + letter, () -> x.changed(letter, 1, 1));
            check.noIndex("changed of " + letter + " before its numbers", () -> x.changed(letter, 1, 0));
        }
        check.noArgument("changed below 0", () -> x.changed('a', 1, 0));
        check.noArgument("changed below 10001", () -> x.changed('a', 1, 10001));
        check.noArgument("changed above 1000001", () -> x.changed('a', 1000001, 1));
        check.noArgument("changed above -1000001", () -> x.changed('a', -1000001, 1));
        check.equal("changed to the edge", x.changed('a', -1000000, 10000), -10250);
        check.equal("the fact stays", x.cents(), 250);
    }
}
