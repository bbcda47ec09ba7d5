/** Promises 1 to 3: a new object, unit, read. */
public final class ReadingTest {
    private static final Check check = new Check("ReadingTest");

    public static void main(String[] args) {
        aNewObject();
        units();
        textsThatAreRead();
        faults();
        seventhOnTheStack();
        seventeenthLine();
        aFaultLeavesTheLines();
        eachReadingBeginsAnew();
        check.end();
    }

    private static void aNewObject() {
        PriceLines x = new PriceLines();
        check.equal("new: run()", x.run(), 0);
        check.equal("new: cents()", x.cents(), 0);
        check.equal("new: centsAt(0)", x.centsAt(0), 0);
        check.noIndex("new: line(0, 0)", () -> x.line(0, 0));
        check.noIndex("new: offered(0, 0)", () -> x.offered(0, 0));
        check.noIndex("new: left(0)", () -> x.left(0));
        for (int letter = 'a'; letter <= 'z'; letter++) {
            if (letter != 'r') {
                check.isFalse("new: forget " + letter, x.forget(letter));
            }
        }
        check.equal("new: read() of the empty text", x.read(), -1);
        check.equal("new: the first currency row", x.currency(0, 1, 1), 1);
        check.equal("new: the first offer", x.offer(0), 0);
        check.equal("new: the first invoice", x.invoice(0, 0), 0);
        for (int kind = 0; kind < 8; kind++) {
            check.equal("new: the first minutes", x.learn(kind, kind + 1), kind + 1);
        }
    }

    private static void units() {
        PriceLines x = new PriceLines();
        int[] refused = {31, 127, -1, 0, 10, 32 + 256, 65536 + 32, Integer.MIN_VALUE, Integer.MAX_VALUE};
        for (int u : refused) {
            check.isFalse("unit(" + u + ")", x.unit(u));
        }
        check.equal("nothing was typed", x.read(), -1);
        for (int u = 32; u <= 126; u++) {
            check.isTrue("unit(" + u + ")", x.unit(u));
        }
        check.equal("! is the first that can't be there", x.read(), -2);
        for (int k = 0; k < 238; k++) {
            check.isTrue("space " + k, x.unit(' '));
        }
        check.isTrue("character 239", x.unit('7'));
        check.isFalse("a wrong character before the last", x.unit(127));
        check.isTrue("character 240", x.unit(';'));
        check.isFalse("character 241", x.unit(' '));
        check.isFalse("character 242", x.unit('!'));
        check.equal("a text of 240", x.read(), 1);
        check.equal("its cents", x.cents(), 700);
        check.isTrue("the text is empty again", x.unit('8'));
        check.equal("8 alone", x.read(), -2);
    }

    private static void textsThatAreRead() {
        due("7;", 1, 700);
        due(" 7 ; ", 1, 700);
        due("00007;", 1, 700);
        due("99999;", 1, 9999900);
        due("1 2+;", 1, 300);
        due("1 2 +;3;", 2, 600);
        due("12345 6+;", 1, 1235100);
        due("1 2 3 4 5 6+++++;", 1, 2100);
        due("1 2 3 4 5 6+7+++++;", 1, 2800);
        due("5r;", 1, 500);
        due("5;10%20=", 3, 2000);
    }

    private static void due(String text, int lines, long cents) {
        PriceLines x = new PriceLines();
        check.equal("read " + text, Check.read(x, text), lines);
        check.equal("cents of " + text, x.cents(), cents);
    }

    private static void faults() {
        fault("", 0);
        fault("  ", 2);
        fault("1", 1);
        fault("1 ", 2);
        fault("1;2", 3);
        fault("1;2 ", 4);
        fault(";", 0);
        fault("1;;", 2);
        fault("1;%", 2);
        fault("1; =", 3);
        fault("1 2;", 3);
        fault("1 2%", 3);
        fault("1 2=", 3);
        fault("ab;", 2);
        fault("+;", 0);
        String binary = "+-*/<>";
        for (int k = 0; k < binary.length(); k++) {
            fault("1" + binary.charAt(k) + ";", 1);
            fault("1 2" + binary.charAt(k) + binary.charAt(k) + ";", 4);
            fault("1;" + binary.charAt(k), 2);
        }
        fault("r;", 0);
        fault("1;r", 2);
        fault("123456;", 5);
        fault("1 000000;", 7);
        fault("1;A;", 2);
        for (char c = 33; c <= 126; c++) {
            boolean isSign = "+-*/<>;%=".indexOf(c) >= 0 || c >= '0' && c <= '9' || c >= 'a' && c <= 'z';
            if (!isSign) {
                fault("1 2" + c + "+;", 3);
            }
        }
    }

    private static void fault(String text, int place) {
        PriceLines x = new PriceLines();
        check.equal("read " + text, Check.read(x, text), -1 - place);
        check.equal("no lines behind " + text, x.run(), 0);
        check.equal("the text is empty behind " + text, x.read(), -1);
    }

    private static void seventhOnTheStack() {
        fault("1 2 3 4 5 6 7+;", 12);
        fault("1 2 3 4 5 6 789+;", 12);
        fault("abcdefg;", 6);
        fault("abcdefr+g h;", 10);
    }

    private static void seventeenthLine() {
        String sixteen = "1;".repeat(16);
        due(sixteen, 16, 1600);
        due(sixteen + "   ", 16, 1600);
        fault(sixteen + "1;", 32);
        fault(sixteen + " 1;", 33);
        fault(sixteen + "a;", 32);
        fault(sixteen + "12", 32);
        fault(sixteen + ";", 32);
        fault(sixteen + "r", 32);
    }

    private static void aFaultLeavesTheLines() {
        PriceLines x = Check.having("3;4;");
        check.equal("a fault in the third line", Check.read(x, "1;1;+"), -5);
        check.equal("the cents of before", x.cents(), 700);
        check.line("the lines of before", x, 1, Check.adds(4, 1));
        check.noIndex("no third line", () -> x.line(2, 0));
        check.equal("the empty text", x.read(), -1);
        check.equal("still the cents of before", x.cents(), 700);
        check.equal("fewer lines", Check.read(x, "9;"), 1);
        check.equal("their cents", x.cents(), 900);
        check.noIndex("no second line", () -> x.line(1, 0));
        check.equal("another fault", Check.read(x, "5;5"), -4);
        check.equal("the cents of the last good text", x.cents(), 900);
    }

    private static void eachReadingBeginsAnew() {
        PriceLines x = new PriceLines();
        check.equal("two on the stack", Check.read(x, "1 2"), -4);
        check.equal("one END is enough", Check.read(x, "7;"), 1);
        check.equal("five digits", Check.read(x, "12345"), -6);
        check.equal("a digit alone", Check.read(x, "6;"), 1);
        check.equal("its cents", x.cents(), 600);
        check.equal("three lines", Check.read(x, "1;2;3;"), 3);
        check.equal("three more", Check.read(x, "4;5;6;"), 3);
        check.equal("one line", Check.read(x, "1 a+;"), 1);
        check.line("places count from its own first sign", x, 0, Check.isOpen(1, 1));
    }
}
