/** Promises 6 to 8: run, cents, line. */
public final class RunTest {
    private static final Check check = new Check("RunTest");
    // 1000000000 / 1, the limit itself.
    private static final String LIMIT = "10000 10000*10*";

    public static void main(String[] args) {
        signs();
        rounding();
        centsHalvesUp();
        ends();
        reasons();
        theLimit();
        theLimitAtAnEnd();
        anOpenLineAddsNothing();
        linesAndParts();
        check.end();
    }

    private static void adds(String text, long above, long below) {
        check.line(text, Check.having(text), 0, Check.adds(above, below));
    }

    private static void isOpen(String text, int reason, int place) {
        PriceLines x = Check.having(text);
        check.equal(text + ": run()", x.run(), 1);
        check.equal(text + ": cents()", x.cents(), 0);
        check.line(text, x, 0, Check.isOpen(reason, place));
    }

    private static void signs() {
        adds("7 3+;", 10, 1);
        adds("7 3-;", 4, 1);
        adds("3 7-;", -4, 1);
        adds("7 3*;", 21, 1);
        adds("7 3/;", 7, 3);
        adds("6 3/;", 2, 1);
        adds("0 3/;", 0, 1);
        adds("4 6/;", 2, 3);
        adds("1 0 2-/;", -1, 2);
        adds("0 1-0 2-/;", 1, 2);
        adds("7 3<;", 3, 1);
        adds("3 7<;", 3, 1);
        adds("7 3>;", 7, 1);
        adds("3 7>;", 7, 1);
        adds("1 3/1 2/<;", 1, 3);
        adds("1 3/1 2/>;", 1, 2);
        adds("0 1 3/-0 1 2/-<;", -1, 2);
        adds("0 1 3/-0 1 2/->;", -1, 3);
        adds("5 5<;", 5, 1);
        adds("1 2/1 3/+;", 5, 6);
        adds("1 6/1 3/+;", 1, 2);
        adds("2 3/9 4/*;", 3, 2);
        adds("1 2 3 4 5 6-----;", -3, 1);
    }

    private static void rounding() {
        adds("7r;", 7, 1);
        adds("1 3/r;", 33, 100);
        adds("2 3/r;", 67, 100);
        adds("1 200/r;", 1, 100);
        adds("1 201/r;", 0, 1);
        adds("0 1 200/-r;", 0, 1);
        adds("0 3 200/-r;", -1, 100);
        adds("0 2 300/-r;", -1, 100);
        adds("1 2/r;", 1, 2);
        adds("1 1 3/r+;", 133, 100);
        adds("5 1 3/r-;", 467, 100);
    }

    private static void centsHalvesUp() {
        cents("1 200/;", 1);
        cents("1 201/;", 0);
        cents("0 1 200/-;", 0);
        cents("0 3 200/-;", -1);
        cents("0 151 10000/-;", -2);
        cents("1 3/;", 33);
        cents("2 3/;", 67);
        cents(LIMIT + ";", 100000000000L);
        cents("0 " + LIMIT + "-;", -100000000000L);
        // The TOTAL is exact: three thirds of a cent are one cent.
        cents("1 300/;1 300/;1 300/;", 1);
    }

    private static void cents(String text, long due) {
        check.equal("cents of " + text, Check.having(text).cents(), due);
    }

    private static void ends() {
        PriceLines x = Check.having("50;10%20=0 5-%");
        check.line("50;", x, 0, Check.adds(50, 1));
        check.line("10%", x, 1, Check.adds(5, 1));
        check.line("20=", x, 2, Check.adds(-35, 1));
        check.line("-5%", x, 3, Check.adds(-1, 1));
        check.equal("all four", x.cents(), 1900);
        check.line("% of nothing", Check.having("10%"), 0, Check.adds(0, 1));
        check.line("= of nothing", Check.having("10="), 0, Check.adds(10, 1));
        check.line("a share without a common divisor", Check.having("3;25%"), 1, Check.adds(3, 4));
    }

    private static void reasons() {
        isOpen("a;", 1, 0);
        isOpen("1 a+;", 1, 1);
        isOpen("1 2+ a b*-;", 1, 3);
        isOpen("1 0/;", 2, 2);
        isOpen("0 0/;", 2, 2);
        isOpen("7 1 1-/r;", 2, 4);
        // The first sign at which a line becomes OPEN tells it.
        isOpen("1 0/a+;", 2, 2);
        isOpen("a 1 0/+;", 1, 0);
        isOpen("99999 99999*a+;", 3, 2);
        isOpen("a 0*;", 1, 0);
        check.equal("two of three", threeLines().run(), 2);
    }

    private static PriceLines threeLines() {
        PriceLines x = Check.having("a;5;1 0/;");
        check.line("a", x, 0, Check.isOpen(1, 0));
        check.line("5", x, 1, Check.adds(5, 1));
        check.line("1 0/", x, 2, Check.isOpen(2, 2));
        return x;
    }

    private static void theLimit() {
        adds(LIMIT + ";", 1000000000, 1);
        adds("0 " + LIMIT + "-;", -1000000000, 1);
        adds("1 " + LIMIT + "/;", 1, 1000000000);
        isOpen(LIMIT + "1+;", 3, 6);
        isOpen("0 " + LIMIT + "-1-;", 3, 8);
        isOpen("1 " + LIMIT + "/2/;", 3, 8);
        isOpen("1 99999/99998/;", 3, 4);
        // Only what comes of a sign counts, without a common divisor.
        adds(LIMIT + LIMIT + "/;", 1, 1);
        adds(LIMIT + LIMIT + "-;", 0, 1);
        adds(LIMIT + "1 " + LIMIT + "/*;", 1, 1);
        adds(LIMIT + "1<;", 1, 1);
        adds(LIMIT + "r;", 1000000000, 1);
        adds("99999 9999*2/r;", 999890001, 2);
        isOpen("99999 9999*7/r;", 3, 5);
        adds("1 " + LIMIT + "/r;", 0, 1);
    }

    private static void theLimitAtAnEnd() {
        // The new TOTAL.
        PriceLines x = Check.having("1;" + LIMIT + ";5;");
        check.line("beyond by the TOTAL", x, 1, Check.isOpen(3, 5));
        check.line("the line behind it", x, 2, Check.adds(5, 1));
        check.equal("the cents without it", x.cents(), 600);
        PriceLines below = Check.having("1 99999/;1 99998/;");
        check.line("below beyond by the TOTAL", below, 1, Check.isOpen(3, 3));
        // it / 100 is the first step of %, also when the share would be small enough.
        PriceLines share = Check.having("1 " + LIMIT + "/10*%1 " + LIMIT + "/100*%");
        check.line("it / 100 is beyond", share, 0, Check.isOpen(3, 9));
        check.line("it / 100 is the limit", share, 1, Check.adds(0, 1));
        PriceLines product = Check.having("99999;99999 10*100*%7;");
        check.line("(it / 100) * TOTAL is beyond", product, 1, Check.isOpen(3, 5));
        check.equal("the cents without the share", product.cents(), 10000600);
        // The share itself is within the limit, the new TOTAL is not.
        PriceLines sum = Check.having(LIMIT + ";1 " + LIMIT + "/100*%");
        check.line("the share is 1, the TOTAL beyond", sum, 1, Check.isOpen(3, 9));
        // it - TOTAL is beyond though it would be the new TOTAL.
        PriceLines set = Check.having(LIMIT + ";0 1-=0=");
        check.line("it - TOTAL is beyond", set, 1, Check.isOpen(3, 3));
        check.line("it - TOTAL is the limit", set, 2, Check.adds(-1000000000, 1));
        check.equal("run", set.run(), 1);
    }

    private static void anOpenLineAddsNothing() {
        PriceLines x = Check.having("10;a;50%b=");
        check.equal("two open", x.run(), 2);
        check.equal("the others", x.cents(), 1500);
        x.fact('a', 10, 1);
        check.equal("one open", x.run(), 1);
        check.equal("with a", x.cents(), 3000);
        check.line("a", x, 1, Check.adds(10, 1));
        x.fact('b', 1, 1);
        check.equal("none open", x.run(), 0);
        check.line("b=", x, 3, Check.adds(-29, 1));
        x.forget('a');
        check.line("a is open again, and adds nothing", x, 1, Check.isOpen(1, 0));
        check.line("b= without a", x, 3, Check.adds(-14, 1));
    }

    private static void linesAndParts() {
        PriceLines x = Check.having("1;2;");
        int[] noLines = {-1, 2, 16, Integer.MIN_VALUE, Integer.MAX_VALUE};
        for (int k : noLines) {
            check.noIndex("line " + k, () -> x.line(k, 0));
        }
        int[] noParts = {-1, 4, Integer.MIN_VALUE, Integer.MAX_VALUE};
        for (int part : noParts) {
            check.noIndex("part " + part, () -> x.line(0, part));
        }
        PriceLines most = Check.having("1;2;3;4;5;6;7;8;9;10;11;12;13;14;15;16;");
        check.line("the 16th", most, 15, Check.adds(16, 1));
        check.noIndex("the 17th", () -> most.line(16, 0));
        // Spaces are no signs, and a number is one.
        check.line("the place", Check.having("  123   45 + a *;"), 0, Check.isOpen(1, 3));
        check.line("the place in a later line", Check.having("1 2+;123 0/;"), 1, Check.isOpen(2, 2));
    }
}
