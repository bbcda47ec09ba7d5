/** The boundary cases of promises 4, 5 and 9: fact, forget, changed. */
public final class FactsBoundaryTest {
    private static final Check check = new Check("FactsBoundaryTest");
    private static final int[] NO_LETTERS = {96, 123, 'r', 'A', 'Z', 0, 1, 25, 26, -1, -97, 97 + 256, 97 + 65536,
        97 - 256, 122 - 65536, Integer.MIN_VALUE, Integer.MIN_VALUE + 97, Integer.MAX_VALUE};
    private static final int[] NO_BELOW = {0, -1, 10001, -10000, 65536 + 1, Integer.MIN_VALUE, Integer.MAX_VALUE};
    private static final int[] NO_ABOVE = {1000001, -1000001, Integer.MIN_VALUE, Integer.MAX_VALUE};

    public static void main(String[] args) {
        lettersOfFact();
        belowOfFact();
        aboveOfFact();
        severalExceptionsOfFact();
        factsAreToldAnew();
        lettersOfForget();
        forgetWhetherItWas();
        changedAsFact();
        changedWithoutTheFact();
        changedKeepsTheFacts();
        changedAtOpenLines();
        changedFarApart();
        check.end();
    }

    private static void lettersOfFact() {
        check.says(4, "A FACT (letter 97 .. 122, not r) is told", "IndexOutOfBoundsException: no such letter");
        for (int letter : NO_LETTERS) {
            check.noIndexKeeping("fact(" + letter + ", 1, 1)", Scene::busy, x -> x.fact(letter, 1, 1));
        }
        int[] edges = {97, 98, 'q', 's', 121, 122};
        for (int letter : edges) {
            PriceLines x = Check.having((char) letter + ";");
            x.fact(letter, 3, 2);
            check.line("fact(" + letter + ", 3, 2)", x, 0, Check.adds(3, 2));
        }
        for (char told : Scene.LETTERS.toCharArray()) {
            PriceLines x = new PriceLines();
            x.fact(told, 1, 1);
            for (char c : Scene.LETTERS.toCharArray()) {
                check.isTrue(c + " with " + told + " told", x.forget(c) == (c == told));
            }
        }
    }

    private static void belowOfFact() {
        check.says(4, "below is not 1 .. 10000", "below it 1 at least");
        for (int below : NO_BELOW) {
            check.noArgumentKeeping("fact('a', 1, " + below + ")", Scene::busy, x -> x.fact('a', 1, below));
            check.noArgumentKeeping("fact('d', 1, " + below + ")", Scene::busy, x -> x.fact('d', 1, below));
            check.noArgumentKeeping("fact('d', 0, " + below + ")", Scene::busy, x -> x.fact('d', 0, below));
        }
        isTold(7, 1, 7, 1);
        isTold(7, 2, 7, 2);
        isTold(7, 9999, 7, 9999);
        isTold(7, 10000, 7, 10000);
        isTold(0, 10000, 0, 1);
        isTold(10000, 10000, 1, 1);
    }

    private static void isTold(int above, int below, int dueAbove, int dueBelow) {
        PriceLines x = Check.having("a;");
        x.fact('a', above, below);
        check.line("fact('a', " + above + ", " + below + ")", x, 0, Check.adds(dueAbove, dueBelow));
    }

    private static void aboveOfFact() {
        check.says(4, "or above not -1000000 .. 1000000");
        for (int above : NO_ABOVE) {
            check.noArgumentKeeping("fact('a', " + above + ", 1)", Scene::busy, x -> x.fact('a', above, 1));
            check.noArgumentKeeping("fact('d', " + above + ", 10000)", Scene::busy, x -> x.fact('d', above, 10000));
        }
        isTold(1000000, 1, 1000000, 1);
        isTold(-1000000, 1, -1000000, 1);
        isTold(999999, 10000, 999999, 10000);
        isTold(-999999, 10000, -999999, 10000);
        isTold(1000000, 10000, 100, 1);
        isTold(-1000000, 9999, -1000000, 9999);
    }

    private static void severalExceptionsOfFact() {
        check.says(4, "of several exceptions the one named first is thrown");
        for (int letter : NO_LETTERS) {
            check.noIndexKeeping("fact(" + letter + ", 1, 0)", Scene::busy, x -> x.fact(letter, 1, 0));
            check.noIndexKeeping("fact(" + letter + ", 1000001, 1)", Scene::busy, x -> x.fact(letter, 1000001, 1));
        }
        check.noArgumentKeeping("both numbers", Scene::busy, x -> x.fact('a', 1000001, 10001));
    }

    private static void factsAreToldAnew() {
        check.says(4, "is told");
        PriceLines x = Check.having("a;");
        x.fact('a', 5, 2);
        x.fact('a', 5, 2);
        x.fact('a', 7, 3);
        check.line("the last one counts", x, 0, Check.adds(7, 3));
        Check.read(x, "1;a;");
        check.line("facts stay behind a READING", x, 1, Check.adds(7, 3));
        check.isTrue("it is told once", x.forget('a'));
        check.isFalse("and then not", x.forget('a'));
    }

    private static void lettersOfForget() {
        check.says(5, "A FACT is not told any more", "IndexOutOfBoundsException");
        for (int letter : NO_LETTERS) {
            check.noIndexKeeping("forget(" + letter + ")", Scene::busy, x -> x.forget(letter));
        }
        int[] edges = {97, 98, 'q', 's', 121, 122};
        for (int letter : edges) {
            PriceLines x = Check.having((char) letter + ";");
            x.fact(letter, 3, 2);
            check.isTrue("forget(" + letter + ")", x.forget(letter));
            check.line("behind forget(" + letter + ")", x, 0, Check.isOpen(1, 0));
        }
    }

    private static void forgetWhetherItWas() {
        check.says(5, "whether it was");
        PriceLines x = new PriceLines();
        check.isFalse("never told", x.forget('a'));
        x.fact('a', 0, 1);
        check.isTrue("0 is told", x.forget('a'));
        check.isFalse("a second time", x.forget('a'));
        x.fact('a', 1, 1);
        x.fact('b', 1, 1);
        x.forget('a');
        check.isTrue("the other one is still told", x.forget('b'));
        PriceLines refused = new PriceLines();
        check.noArgument("a fact that is refused", () -> refused.fact('a', 1, 0));
        check.isFalse("is not told", refused.forget('a'));
    }

    private static void changedAsFact() {
        check.says(9, "CHANGED. As fact().");
        for (int letter : NO_LETTERS) {
            check.noIndexKeeping("changed(" + letter + ", 1, 1)", Scene::busy, x -> x.changed(letter, 1, 1));
            check.noIndexKeeping("changed(" + letter + ", 1, 0)", Scene::busy, x -> x.changed(letter, 1, 0));
            check.noIndexKeeping("changed(" + letter + ", 1000001, 1)", Scene::busy,
                x -> x.changed(letter, 1000001, 1));
        }
        for (int below : NO_BELOW) {
            check.noArgumentKeeping("changed('a', 1, " + below + ")", Scene::busy, x -> x.changed('a', 1, below));
            check.noArgumentKeeping("changed('d', 1, " + below + ")", Scene::busy, x -> x.changed('d', 1, below));
        }
        for (int above : NO_ABOVE) {
            check.noArgumentKeeping("changed('a', " + above + ", 1)", Scene::busy, x -> x.changed('a', above, 1));
        }
        PriceLines x = Check.having("a;q;s;z;");
        x.fact('a', 1, 1);
        check.equal("below 1", x.changed('a', 2, 1), 100);
        check.equal("below 10000", x.changed('a', 20000, 10000), 100);
        check.equal("above 1000000", x.changed('a', 1000000, 1), 99999900);
        check.equal("above -1000000", x.changed('a', -1000000, 1), -100000100);
        check.equal("the letter q", x.changed('q', 3, 1), 300);
        check.equal("the letter s", x.changed('s', 4, 1), 400);
        check.equal("the letter z", x.changed('z', 5, 1), 500);
    }

    private static void changedWithoutTheFact() {
        check.says(9, "CENTS with another FACT less CENTS with those that are told");
        check.equal("no lines", new PriceLines().changed('a', 5, 1), 0);
        PriceLines x = Check.having("a b+;7;");
        check.equal("another fact lacks still", x.changed('a', 5, 1), 0);
        check.equal("a fact of no line", x.changed('z', 5, 1), 0);
        x.fact('b', 1, 1);
        check.equal("the last one that lacked", x.changed('a', 5, 1), 600);
        x.fact('a', 5, 1);
        check.equal("to itself", x.changed('a', 10, 2), 0);
        check.equal("to less", x.changed('a', 4, 1), -100);
        PriceLines half = Check.having("a;");
        half.fact('a', 1, 200);
        check.equal("both are CENTS, halves up", half.changed('a', 149, 10000), 0);
        check.equal("one cent more", half.changed('a', 150, 10000), 1);
    }

    private static void changedKeepsTheFacts() {
        check.says(9, "the facts stay");
        for (char c : Scene.LETTERS.toCharArray()) {
            PriceLines x = Scene.busy();
            x.changed(c, 999, 1000);
            check.same("changed of " + c, Scene.look(x), Scene.look(Scene.busy()));
        }
        PriceLines zero = Check.having("a;");
        zero.fact('a', 0, 1);
        zero.changed('a', 5, 1);
        check.line("a fact that is 0", zero, 0, Check.adds(0, 1));
        check.isTrue("it is still told", zero.forget('a'));
        PriceLines lacking = Check.having("a;");
        lacking.changed('a', 5, 1);
        check.line("a fact that lacks", lacking, 0, Check.isOpen(1, 0));
        check.isFalse("it is still not told", lacking.forget('a'));
    }

    private static void changedAtOpenLines() {
        check.says(9, "CENTS with another FACT less CENTS with those that are told", "An OPEN line adds nothing");
        PriceLines x = Check.having("9;7 a/;");
        check.equal("0 is told: the line is OPEN both times", x.changed('a', 0, 1), 0);
        x.fact('a', 1, 1);
        check.equal("a change that divides by 0", x.changed('a', 0, 1), -700);
        x.fact('a', 0, 1);
        check.equal("a change that divides again", x.changed('a', 1, 1), 700);
        PriceLines limit = Check.having("a 1000*;");
        limit.fact('a', 1, 1);
        check.equal("to the limit", limit.changed('a', 1000000, 1), 100000000000L - 100000L);
        PriceLines beyond = Check.having("a 1001*;");
        beyond.fact('a', 1, 1);
        check.equal("beyond the limit", beyond.changed('a', 1000000, 1), -100100);
    }

    private static void changedFarApart() {
        check.says(9, "long changed(int letter, int above, int below)");
        PriceLines x = Check.having("a 1000*;");
        x.fact('a', -1000000, 1);
        check.equal("from the least to the most", x.changed('a', 1000000, 1), 200000000000L);
        x.fact('a', 1000000, 1);
        check.equal("from the most to the least", x.changed('a', -1000000, 1), -200000000000L);
    }
}
