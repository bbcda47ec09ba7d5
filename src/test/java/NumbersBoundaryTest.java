/** The boundary cases of promises 6 to 8: run, cents, line; with the Terms of SIGNS, NUMBERS, OPEN lines and CENTS. */
public final class NumbersBoundaryTest {
    private static final Check check = new Check("NumbersBoundaryTest");
    // 1000000000 is the limit; 19019 * 52579 is one more; 3125 * 625 is 5 to the ninth, 512 is 2 to the ninth.
    private static final String LIMIT = "10000 10000*10*";
    private static final String PART_OF_FIVES = "1 3125/625/";
    private static final String PART_OF_TWOS = "1 512/";
    private static final int MOST = 1000000000;

    public static void main(String[] args) {
        openLinesOfRun();
        runFromZero();
        centsHalvesUp();
        centsOfTheMost();
        linesThatAreThere();
        partsOfALine();
        partsOfAnOpenLine();
        placesOfSigns();
        withoutCommonDivisor();
        lowerOneFirst();
        lesserAndGreater();
        wholeHundredths();
        factsNotTold();
        dividedByZero();
        sumsAtTheLimit();
        productsAtTheLimit();
        quotientsAtTheLimit();
        roundedAtTheLimit();
        theFirstSignTells();
        endAddsAtTheLimit();
        endOfSharesAtTheLimit();
        endOfEqualsAtTheLimit();
        openLinesAddNothing();
        endsOfATotalOfZero();
        check.end();
    }

    private static void adds(String text, long above, long below) {
        lineAdds(text, 0, above, below);
    }

    private static void isOpen(String text, int reason, int place) {
        lineIsOpen(text, 0, reason, place);
    }

    private static void lineAdds(String text, int k, long above, long below) {
        PriceLines x = Check.having(text);
        check.equal(text + ": run", x.run(), 0);
        check.line(text, x, k, Check.adds(above, below));
    }

    private static void lineIsOpen(String text, int k, int reason, int place) {
        PriceLines x = Check.having(text);
        check.equal(text + ": run", x.run(), 1);
        check.line(text, x, k, Check.isOpen(reason, place));
    }

    private static void cents(String text, long due) {
        check.equal("cents of " + text, Check.having(text).cents(), due);
    }

    private static void openLinesOfRun() {
        check.says(6, "RUN: how many lines are OPEN");
        check.equal("no lines", new PriceLines().run(), 0);
        check.equal("none of one", Check.having("1;").run(), 0);
        check.equal("one of one", Check.having("a;").run(), 1);
        check.equal("none of 16", Check.having("1;".repeat(16)).run(), 0);
        check.equal("one of 16", Check.having("1;".repeat(15) + "a;").run(), 1);
        check.equal("15 of 16", Check.having("1;" + "a;".repeat(15)).run(), 15);
        PriceLines x = Check.having("a;".repeat(16));
        check.equal("16 of 16", x.run(), 16);
        x.fact('a', 1, 1);
        check.equal("told: none of 16", x.run(), 0);
        x.forget('a');
        check.equal("forgotten: 16 of 16", x.run(), 16);
        check.equal("each reason once", Check.having("a;1 0/;99999 99999*;1;").run(), 3);
    }

    private static void runFromZero() {
        check.says(7, "CENTS of a RUN now", "RUN: all lines in turn from a TOTAL 0");
        PriceLines x = Check.having("5;10%7=1;");
        for (int k = 0; k < 4; k++) {
            check.equal("run " + k, x.run(), 0);
            check.equal("cents " + k, x.cents(), 800);
            check.line("the line of 7=", x, 2, Check.adds(3, 2));
        }
        check.equal("no lines", new PriceLines().cents(), 0);
        cents("1;".repeat(16), 1600);
        cents("50%10;", 1000);
        cents("10;50%", 1500);
        PriceLines fewer = Check.having("1;2;4;".repeat(5) + "a;");
        String[] texts = {"8;", "16;32;", "8;", "16;32;64;", "8;"};
        int[] due = {800, 4800, 800, 11200, 800};
        for (int k = 0; k < texts.length; k++) {
            Check.read(fewer, texts[k]);
            check.equal("no line is of an earlier text: " + texts[k], fewer.cents(), due[k]);
            check.equal("none of these is OPEN: " + texts[k], fewer.run(), 0);
        }
    }

    private static void centsHalvesUp() {
        check.says(7, "CENTS of the TOTAL are TOTAL * 100, halves up (FLOOR of it and a half)");
        cents("0;", 0);
        // 4999999, 5000000 and 5000001 parts of 1000000000, as near to half a cent as a NUMBER can be here.
        cents("500 10000*1-" + LIMIT + "/;", 0);
        cents("500 10000*" + LIMIT + "/;", 1);
        cents("500 10000*1+" + LIMIT + "/;", 1);
        cents("0 500 10000*1-" + LIMIT + "/-;", 0);
        cents("0 500 10000*" + LIMIT + "/-;", 0);
        cents("0 500 10000*1+" + LIMIT + "/-;", -1);
        cents("3 200/;", 2);
        cents("0 3 200/-;", -1);
        cents("1 " + LIMIT + "/;", 0);
        cents("0 1 " + LIMIT + "/-;", 0);
        cents("1 100/;", 1);
        cents("0 1 100/-;", -1);
        // Each line alone is less than half a cent; the TOTAL is exact.
        cents("1 400/;", 0);
        cents("1 400/;1 400/;", 1);
    }

    private static void centsOfTheMost() {
        check.says(7, "long cents()");
        cents(LIMIT + ";", 100000000000L);
        cents("0 " + LIMIT + "-;", -100000000000L);
        cents(LIMIT + "1-;", 99999999900L);
        cents(LIMIT + "1+;", 0);
    }

    private static void linesThatAreThere() {
        check.says(8, "there is no such line");
        int[] noLines = {-1, 3, 4, 15, 16, Integer.MIN_VALUE, Integer.MAX_VALUE};
        for (int k : noLines) {
            for (int part = 0; part < 4; part++) {
                int p = part;
                check.noIndexKeeping("line(" + k + ", " + part + ") of 3", Scene::busy, x -> x.line(k, p));
            }
        }
        PriceLines most = Check.having("1;2;3;4;5;6;7;8;9;10;11;12;13;14;15;16;");
        for (int k = 0; k < 16; k++) {
            check.line("of 16", most, k, Check.adds(k + 1, 1));
        }
        check.noIndex("line(16, 0) of 16", () -> most.line(16, 0));
        check.noIndex("line(-1, 0) of 16", () -> most.line(-1, 0));
        Check.read(most, "7;");
        check.line("of 1", most, 0, Check.adds(7, 1));
        check.noIndex("line(1, 0) of 1", () -> most.line(1, 0));
        Check.read(most, "7;8;");
        check.line("of 2", most, 1, Check.adds(8, 1));
        check.noIndex("line(2, 0) of 2", () -> most.line(2, 0));
    }

    private static void partsOfALine() {
        check.says(8, "IndexOutOfBoundsException: also of part");
        int[] noParts = {-1, 4, 5, Integer.MIN_VALUE, Integer.MAX_VALUE};
        for (int part : noParts) {
            check.noIndexKeeping("line(0, " + part + ")", Scene::busy, x -> x.line(0, part));
            check.noIndexKeeping("line(2, " + part + ")", Scene::busy, x -> x.line(2, part));
            check.noIndexKeeping("line(3, " + part + ")", Scene::busy, x -> x.line(3, part));
        }
        check.says(8, "above (part = 0), below (1)",
            "its reason, 0 if it is not OPEN (2), the place of the sign (3; NONE");
        PriceLines x = Check.having("0 7 2/-;");
        check.equal("above", x.line(0, 0), -7);
        check.equal("below", x.line(0, 1), 2);
        check.equal("the reason", x.line(0, 2), 0);
        check.equal("the place", x.line(0, 3), PriceLines.NONE);
    }

    private static void partsOfAnOpenLine() {
        check.says(8, "what it added to the TOTAL (0 if it is OPEN)");
        String[] texts = {"5 a+;", "5 0/;", LIMIT + "5+;"};
        int[] places = {1, 2, 6};
        for (int k = 0; k < texts.length; k++) {
            isOpen(texts[k], k + 1, places[k]);
            cents(texts[k], 0);
        }
        PriceLines x = Check.having("8 3/ a+;");
        x.fact('a', 1, 1);
        check.line("told", x, 0, Check.adds(11, 3));
        x.forget('a');
        check.line("nothing is left of what it added", x, 0, Check.isOpen(1, 3));
        x.fact('a', 1, 1);
        check.line("nor of its reason", x, 0, Check.adds(11, 3));
    }

    private static void placesOfSigns() {
        check.says(8, "of the line's own signs and its END, the first being 0");
        isOpen("a;", 1, 0);
        isOpen("1a+;", 1, 1);
        isOpen("  12345   a  + ;", 1, 1);
        isOpen("1 2 3 4 5 a+++++;", 1, 5);
        lineIsOpen("1 2 3++;7 0/;", 1, 2, 2);
        lineIsOpen("1;2;3;4;5;6;7;8;9;1;1;1;1;1;1;a;", 15, 1, 0);
        // The END is a place, too: of one sign and of many.
        lineIsOpen(LIMIT + ";1;", 1, 3, 1);
        lineIsOpen(LIMIT + ";1rrrr;", 1, 3, 5);
        isOpen("1" + "r".repeat(236) + "a+;", 1, 237);
        int before = LIMIT.length() + 1;
        lineIsOpen(LIMIT + ";1" + "r".repeat(240 - before - 2) + ";", 1, 3, 240 - before - 1);
    }

    private static void withoutCommonDivisor() {
        check.says(8, "A NUMBER is a fraction without a common divisor, below it 1 at least");
        adds("0;", 0, 1);
        adds("0 99999/;", 0, 1);
        adds("0 0 5-/;", 0, 1);
        adds("6 4/;", 3, 2);
        adds("4 4/;", 1, 1);
        adds("1 0 1-/;", -1, 1);
        adds("3 0 6-/;", -1, 2);
        adds("0 3-0 6-/;", 1, 2);
        adds("0 3-6/;", -1, 2);
        adds("1 2/1 2/+;", 1, 1);
        adds("1 2/1 2/-;", 0, 1);
        adds("2 3/3 2/*;", 1, 1);
        adds("99999 99998/;", 99999, 99998);
        adds("99998 99999/;", 99998, 99999);
    }

    private static void lowerOneFirst() {
        check.says(8, "take the upper two off (the lower one first in - and /)");
        adds("7 3-;", 4, 1);
        adds("3 7-;", -4, 1);
        adds("7 3/;", 7, 3);
        adds("3 7/;", 3, 7);
        adds("9 7 3-+;", 13, 1);
        adds("1 2 3 4 5 6-----;", -3, 1);
        adds("64 2 2 2 2 2/////;", 32, 1);
        adds("1 2/1r+;", 3, 2);
    }

    private static void lesserAndGreater() {
        check.says(8, "< > (the lesser, the greater of two)");
        adds("5 5<;", 5, 1);
        adds("5 5>;", 5, 1);
        adds("5 6<;", 5, 1);
        adds("6 5<;", 5, 1);
        adds("5 6>;", 6, 1);
        adds("6 5>;", 6, 1);
        adds("0 0 1-<;", -1, 1);
        adds("0 0 1->;", 0, 1);
        // What lies further apart than the limit can be compared, too.
        adds(LIMIT + "0 " + LIMIT + "-<;", -MOST, 1);
        adds(LIMIT + "0 " + LIMIT + "->;", MOST, 1);
        // 999999998 / 999999999 is less than 999999999 / 1000000000 by the least that there is.
        String less = LIMIT + "2-" + LIMIT + "1-/";
        String more = LIMIT + "1-" + LIMIT + "/";
        adds(less + more + "<;", 999999998, 999999999);
        adds(less + more + ">;", 999999999, MOST);
        adds(more + less + "<;", 999999998, 999999999);
        adds(more + less + ">;", 999999999, MOST);
    }

    private static void wholeHundredths() {
        check.says(8, "to a whole number of hundredths (halves up)");
        adds("0r;", 0, 1);
        adds("1 100/r;", 1, 100);
        adds("500 10000*1-" + LIMIT + "/r;", 0, 1);
        adds("500 10000*" + LIMIT + "/r;", 1, 100);
        adds("500 10000*1+" + LIMIT + "/r;", 1, 100);
        adds("0 500 10000*1-" + LIMIT + "/-r;", 0, 1);
        adds("0 500 10000*" + LIMIT + "/-r;", 0, 1);
        adds("0 500 10000*1+" + LIMIT + "/-r;", -1, 100);
        adds("0 3 200/-r;", -1, 100);
        adds("1 " + LIMIT + "/r;", 0, 1);
        adds("0 1 " + LIMIT + "/-r;", 0, 1);
        adds("7 1 3/r+;", 733, 100);
        adds("1 3/ 1 3/r-;", 1, 300);
    }

    private static void factsNotTold() {
        check.says(8, "OPEN if a FACT is not told (reason 1)");
        PriceLines x = Check.having("a 0*;q;s;z;");
        x.fact('b', 1, 1);
        check.line("a", x, 0, Check.isOpen(1, 0));
        x.fact('a', 0, 10000);
        check.line("0 is told", x, 0, Check.adds(0, 1));
        x.fact('q', 1, 1);
        check.line("q is told", x, 1, Check.adds(1, 1));
        check.line("s is not", x, 2, Check.isOpen(1, 0));
        check.line("z is not", x, 3, Check.isOpen(1, 0));
        isOpen("1 1-a*;", 1, 3);
        isOpen("1a<;", 1, 1);
    }

    private static void dividedByZero() {
        check.says(8, "divided by 0 (2)");
        isOpen("1 0/;", 2, 2);
        isOpen("0 0/;", 2, 2);
        isOpen("1 00000/;", 2, 2);
        isOpen("1 5 5-/;", 2, 4);
        isOpen("1 1 300/r/;", 2, 5);
        isOpen(LIMIT + "0/;", 2, 6);
        PriceLines x = Check.having("1 a/;");
        x.fact('a', 0, 1);
        check.line("by a fact that is 0", x, 0, Check.isOpen(2, 2));
        x.fact('a', 1, 10000);
        check.line("by a small one", x, 0, Check.adds(10000, 1));
        x.fact('a', -1, 10000);
        check.line("by a small one below 0", x, 0, Check.adds(-10000, 1));
        adds("0 1/;", 0, 1);
        adds("1 1 " + LIMIT + "//;", MOST, 1);
        adds("1 0 1 " + LIMIT + "/-/;", -MOST, 1);
    }

    private static void sumsAtTheLimit() {
        check.says(8, "above (or below) it is beyond 1000000000 without sign (3)");
        adds(LIMIT + ";", MOST, 1);
        adds(LIMIT + "1-1+;", MOST, 1);
        isOpen(LIMIT + "1+;", 3, 6);
        adds(LIMIT + "0+;", MOST, 1);
        adds(LIMIT + "0-;", MOST, 1);
        isOpen(LIMIT + "0 1--;", 3, 8);
        adds("0 " + LIMIT + "-;", -MOST, 1);
        adds("0 " + LIMIT + "1--1-;", -MOST, 1);
        isOpen("0 " + LIMIT + "-1-;", 3, 8);
        isOpen("0 " + LIMIT + "-0 1-+;", 3, 10);
        adds(PART_OF_FIVES + PART_OF_TWOS + "+;", 1953637, MOST);
        adds(PART_OF_FIVES + PART_OF_TWOS + "-;", -1952613, MOST);
        isOpen("1 19019/1 52579/+;", 3, 6);
        isOpen("1 19019/1 52579/-;", 3, 6);
        isOpen(LIMIT + "1 2/+;", 3, 8);
        // The parts lose their common divisor before they are looked at.
        adds(LIMIT + LIMIT + "-;", 0, 1);
        adds("1 " + LIMIT + "/1 " + LIMIT + "/+;", 1, MOST / 2);
    }

    private static void productsAtTheLimit() {
        check.says(8, "above (or below) it is beyond 1000000000 without sign (3)");
        adds("20000 50000*;", MOST, 1);
        isOpen("19019 52579*;", 3, 2);
        adds("0 20000-50000*;", -MOST, 1);
        isOpen("0 19019-52579*;", 3, 4);
        adds("0 20000-0 50000-*;", MOST, 1);
        isOpen("0 19019-0 52579-*;", 3, 6);
        adds("1 20000/1 50000/*;", 1, MOST);
        isOpen("1 19019/1 52579/*;", 3, 6);
        isOpen(LIMIT + LIMIT + "*;", 3, 10);
        isOpen("1 " + LIMIT + "/1 " + LIMIT + "/*;", 3, 14);
        adds(LIMIT + "1 " + LIMIT + "/*;", 1, 1);
        adds(LIMIT + "0*;", 0, 1);
    }

    private static void quotientsAtTheLimit() {
        check.says(8, "above (or below) it is beyond 1000000000 without sign (3)");
        adds("1 " + LIMIT + "/;", 1, MOST);
        adds("1 0 " + LIMIT + "-/;", -1, MOST);
        adds("1 20000/50000/;", 1, MOST);
        isOpen("1 19019/52579/;", 3, 4);
        isOpen("1 19019/0 52579-/;", 3, 6);
        adds("20000 1 50000//;", MOST, 1);
        isOpen("19019 1 52579//;", 3, 4);
        isOpen("19019 0 1 52579/-/;", 3, 6);
        adds(LIMIT + LIMIT + "/;", 1, 1);
        adds("0 " + LIMIT + "-" + LIMIT + "/;", -1, 1);
        isOpen(LIMIT + "1 " + LIMIT + "//;", 3, 12);
        isOpen("1 " + LIMIT + "/" + LIMIT + "/;", 3, 12);
    }

    private static void roundedAtTheLimit() {
        check.says(8, "above (or below) it is beyond 1000000000 without sign (3)",
            "to a whole number of hundredths (halves up)");
        // 10000000 and a 99th is 10000000.01 when it is rounded: 1000000001 / 100.
        isOpen("10000 1000*1 99/+r;", 3, 7);
        adds("10000 1000*1 99/-r;", 999999999, 100);
        isOpen("0 10000 1000*1 99/+-r;", 3, 9);
        adds("0 10000 1000*1 99/--r;", -999999999, 100);
        adds("1000 10*1 999/+r;", 10000, 1);
        adds(LIMIT + "r;", MOST, 1);
        adds("0 " + LIMIT + "-r;", -MOST, 1);
    }

    private static void theFirstSignTells() {
        check.says(8, "The first sign (or END) at which that happens tells it");
        isOpen("a 1 0/+;", 1, 0);
        isOpen("1 0/a+;", 2, 2);
        isOpen("19019 52579*a+;", 3, 2);
        isOpen("a 19019 52579*+;", 1, 0);
        isOpen("1 0/19019 52579*+;", 2, 2);
        isOpen("19019 52579*1 0/+;", 3, 2);
        isOpen("ab+;", 1, 0);
        isOpen("1 0/2 0/+;", 2, 2);
        // A sign tells it before the END would.
        lineIsOpen(LIMIT + ";1 0/;", 1, 2, 2);
        lineIsOpen(LIMIT + ";1a+;", 1, 1, 1);
        lineIsOpen(LIMIT + ";19019 52579*;", 1, 3, 2);
        // At one sign a number that is divided by 0 is not beyond.
        isOpen(LIMIT + "0/;", 2, 6);
    }

    private static void endAddsAtTheLimit() {
        check.says(8, "what an END reckons (step by step, the new TOTAL, too) makes the line OPEN likewise (3)",
            "; (59) adds it to the TOTAL");
        lineAdds(LIMIT + "1-;1;", 1, 1, 1);
        lineIsOpen(LIMIT + ";1;", 1, 3, 1);
        lineAdds("1;" + LIMIT + "1-;", 1, 999999999, 1);
        lineIsOpen("1;" + LIMIT + ";", 1, 3, 5);
        lineAdds("0 " + LIMIT + "1--;0 1-;", 1, -1, 1);
        lineIsOpen("0 " + LIMIT + "-;0 1-;", 1, 3, 3);
        lineAdds(PART_OF_FIVES + ";" + PART_OF_TWOS + ";", 1, 1, 512);
        lineIsOpen("1 19019/;1 52579/;", 1, 3, 3);
        lineAdds(LIMIT + ";0;", 1, 0, 1);
        lineAdds(LIMIT + ";0 " + LIMIT + "-;", 1, -MOST, 1);
        cents(LIMIT + ";1;0 1-;", 99999999900L);
    }

    private static void endOfSharesAtTheLimit() {
        check.says(8, "what an END reckons (step by step, the new TOTAL, too) makes the line OPEN likewise (3)",
            "% (37) adds (it / 100) * TOTAL");
        // it / 100 is one part of 1000000000, then of 1000000002.
        adds("50 50000 10000*/%", 0, 1);
        isOpen("50 50000 10000*1+/%", 3, 7);
        adds("1 1000/10000/%", 0, 1);
        isOpen("1 1000/10000/11/%", 3, 7);
        // The share is 1000000000, then 1000000001, while the new TOTAL would be within.
        lineAdds("0 20000-;0 50000 100*-%", 1, MOST, 1);
        lineIsOpen("0 19019-;0 52579 100*-%", 1, 3, 5);
        lineAdds("20000;0 50000 100*-%", 1, -MOST, 1);
        lineIsOpen("19019;0 52579 100*-%", 1, 3, 5);
        lineIsOpen("1 19019/;100 52579/%", 1, 3, 3);
        // The share is 1, the new TOTAL 1000000000, then 1000000001.
        lineAdds(LIMIT + "1-;100 " + LIMIT + "1-/%", 1, 1, 1);
        lineIsOpen(LIMIT + ";100 " + LIMIT + "/%", 1, 3, 7);
        lineAdds("0 " + LIMIT + "1--;100 " + LIMIT + "1-/%", 1, -1, 1);
        lineIsOpen("0 " + LIMIT + "-;100 " + LIMIT + "/%", 1, 3, 7);
        lineAdds(LIMIT + ";0%", 1, 0, 1);
        lineAdds(LIMIT + ";0 100-%", 1, -MOST, 1);
    }

    private static void endOfEqualsAtTheLimit() {
        check.says(8, "what an END reckons (step by step, the new TOTAL, too) makes the line OPEN likewise (3)",
            "= (61) adds it - TOTAL");
        lineAdds(LIMIT + ";0=", 1, -MOST, 1);
        lineIsOpen(LIMIT + ";0 1-=", 1, 3, 3);
        lineAdds("0 " + LIMIT + "-;0=", 1, MOST, 1);
        lineIsOpen("0 " + LIMIT + "-;1=", 1, 3, 1);
        lineAdds(PART_OF_FIVES + ";" + PART_OF_TWOS + "=", 1, 1952613, MOST);
        lineIsOpen("1 19019/;1 52579/=", 1, 3, 3);
        lineAdds(LIMIT + ";" + LIMIT + "=", 1, 0, 1);
        lineAdds("0=" + LIMIT + "=", 1, MOST, 1);
        cents(LIMIT + ";0 1-=", 100000000000L);
    }

    private static void openLinesAddNothing() {
        check.says(6, "An OPEN line adds nothing");
        cents("10;a;", 1000);
        cents("a;10;", 1000);
        cents("10;a%", 1000);
        cents("10;a=", 1000);
        cents("10;1 0/=50%", 1500);
        cents("10;a=7=", 700);
    }

    private static void endsOfATotalOfZero() {
        check.says(8, "% (37) adds (it / 100) * TOTAL, = (61) adds it - TOTAL");
        adds("10%", 0, 1);
        adds("10=", 10, 1);
        adds("0=", 0, 1);
        lineAdds("5;0=50%", 2, 0, 1);
        lineAdds("5;100%", 1, 5, 1);
        lineAdds("5;0 100-%", 1, -5, 1);
        lineAdds("5;0%", 1, 0, 1);
        lineAdds("5;5=", 1, 0, 1);
        lineAdds("0 5-;10%", 1, -1, 2);
    }
}
