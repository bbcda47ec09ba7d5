import java.util.List;

/** The boundary cases of promises 1 to 3: a new object, unit, read; with the Terms of a TEXT and its READING. */
public final class TextBoundaryTest {
    private static final Check check = new Check("TextBoundaryTest");
    private static final String OPERATORS = "+-*/<>";
    private static final String ENDS = ";%=";
    private static final int ROOM = 240;

    public static void main(String[] args) {
        aNewTextIsEmpty();
        aNewObjectHasNothing();
        newObjectsShareNothing();
        charactersOfUnit();
        roomOfTheText();
        behindTheText();
        howManyLines();
        placesOfFaults();
        theTextIsEmptyThen();
        theLinesOfBeforeStay();
        oneOrMoreSigns();
        digitsOfANumber();
        lettersOfFacts();
        heightOfTheStack();
        atFirstEmpty();
        signsThatHaveTooFew();
        endsWithNoneOrSeveral();
        spaces();
        seventeenthLine();
        anyOtherCharacter();
        theTextsEnd();
        theFirstFault();
        check.end();
    }

    private static void reads(String text, int lines) {
        check.equal("read of '" + text + "'", Check.read(new PriceLines(), text), lines);
    }

    private static void faultAt(String text, int place) {
        check.equal("read of '" + text + "'", Check.read(new PriceLines(), text), -1 - place);
    }

    private static void aNewTextIsEmpty() {
        check.says(1, "An empty text");
        PriceLines x = new PriceLines();
        check.equal("the text's end is the FAULT", x.read(), -1);
        roomIs(new PriceLines(), ROOM);
    }

    private static void aNewObjectHasNothing() {
        check.says(1, "no LINES, no FACT told");
        PriceLines x = new PriceLines();
        check.equal("run", x.run(), 0);
        check.equal("cents", x.cents(), 0);
        for (int part = 0; part < 4; part++) {
            int p = part;
            check.noIndexKeeping("line(0, " + part + ")", PriceLines::new, y -> y.line(0, p));
        }
        for (char c : Scene.LETTERS.toCharArray()) {
            check.isFalse("forget " + c, x.forget(c));
        }
        check.says(1, "no CURRENCY rows, OFFERS and INVOICES");
        check.equal("centsAt of the last day", x.centsAt(10000), 0);
        check.noIndexKeeping("offered(0, 0)", PriceLines::new, y -> y.offered(0, 0));
        check.noIndexKeeping("differs(0, 0)", PriceLines::new, y -> y.differs(0, 0));
        check.noIndexKeeping("invoice(0, 0)", PriceLines::new, y -> y.invoice(0, 0));
        check.noIndexKeeping("left(0)", PriceLines::new, y -> y.left(0));
        check.noIndexKeeping("refund(0, 0)", PriceLines::new, y -> y.refund(0, 0));
        check.equal("the first row, of day 0", x.currency(0, 1, 1), 1);
        check.equal("the first offer", x.offer(0), 0);
        check.equal("the first invoice", x.invoice(0, 0), 0);
        check.says(1, "nothing LEARNED");
        for (int kind = 0; kind < 8; kind++) {
            check.equal("the mean of one", x.learn(kind, 99 + kind), 99 + kind);
        }
    }

    private static void newObjectsShareNothing() {
        check.says(1, "A new object");
        List<String> alone = Scene.look(new PriceLines());
        PriceLines before = new PriceLines();
        Scene.full();
        check.same("made before a full one:", Scene.look(before), alone);
        check.same("made behind a full one:", Scene.look(new PriceLines()), alone);
    }

    private static void charactersOfUnit() {
        check.says(2, "it is 32 .. 126");
        int[] outside = {31, 127, 0, -1, -32, 128, 255, 32 + 256, 126 + 256, 32 + 65536, 126 - 65536,
            Integer.MIN_VALUE, Integer.MIN_VALUE + 32, Integer.MAX_VALUE};
        for (int u : outside) {
            PriceLines x = Scene.busy();
            check.isFalse("unit(" + u + ")", x.unit(u));
            check.same("unit(" + u + ") changed", Scene.look(x), Scene.look(Scene.busy()));
        }
        for (int u = 32; u <= 126; u++) {
            check.isTrue("unit(" + u + ")", new PriceLines().unit(u));
        }
        PriceLines first = new PriceLines();
        first.unit(32);
        check.equal("32 is in the text", first.read(), -2);
        PriceLines last = new PriceLines();
        last.unit(126);
        last.unit(32);
        check.equal("126 is in the text", last.read(), -1);
    }

    private static void roomIs(PriceLines x, int room) {
        for (int k = 0; k < room; k++) {
            check.isTrue("room for character " + (k + 1) + " of " + room, x.unit(' '));
        }
        check.isFalse("room for one more than " + room, x.unit(' '));
        check.equal("the end of a text that is full", x.read(), -1 - ROOM);
    }

    private static void roomOfTheText() {
        check.says(2, "whether there was room", "A TEXT, at most 240 characters");
        PriceLines x = new PriceLines();
        Check.type(x, " ".repeat(ROOM - 2) + "7");
        check.isTrue("character 240", x.unit(';'));
        check.isFalse("character 241", x.unit('9'));
        check.isFalse("character 242", x.unit(' '));
        check.equal("240 are read", x.read(), 1);
        check.equal("as they were typed", x.cents(), 700);
        PriceLines y = new PriceLines();
        Check.type(y, " ".repeat(ROOM - 1) + "7");
        check.isFalse("an END as character 241", y.unit(';'));
        check.equal("it is not in the text", y.read(), -1 - ROOM);
        PriceLines refused = new PriceLines();
        refused.unit(31);
        refused.unit(127);
        roomIs(refused, ROOM);
        PriceLines three = new PriceLines();
        Check.type(three, "1 2");
        roomIs(three, ROOM - 3);
    }

    private static void behindTheText() {
        check.says(2, "A character more behind the text");
        PriceLines x = Check.having("12345;");
        check.equal("in their order", x.cents(), 1234500);
        PriceLines apart = Check.having("9;");
        apart.unit('1');
        check.equal("cents between two characters", apart.cents(), 900);
        apart.unit(';');
        check.equal("both are read", apart.read(), 1);
        check.equal("and are the lines", apart.cents(), 100);
    }

    private static void howManyLines() {
        check.says(3, "how many LINES", "has 1 to 16 LINES");
        faultAt("", 0);
        for (int lines = 1; lines <= 16; lines++) {
            PriceLines x = new PriceLines();
            check.equal("read of " + lines, Check.read(x, "1;".repeat(lines)), lines);
            check.equal("cents of " + lines, x.cents(), 100 * lines);
        }
        faultAt("1;".repeat(17), 32);
    }

    private static void placesOfFaults() {
        check.says(3, "-1 less the place of a FAULT");
        faultAt("+", 0);
        faultAt("1+", 1);
        faultAt("1;".repeat(15) + " ".repeat(ROOM - 31) + "!", ROOM - 1);
        faultAt("1;".repeat(15) + " ".repeat(ROOM - 31) + "1", ROOM);
        reads("1;".repeat(15) + " ".repeat(ROOM - 32) + "1;", 16);
    }

    private static void theTextIsEmptyThen() {
        check.says(3, "READING of the text (which is empty then)");
        String[] texts = {"7;", "7!", "7", "", " ".repeat(ROOM)};
        for (String text : texts) {
            PriceLines x = new PriceLines();
            Check.read(x, text);
            check.equal("read behind '" + text + "'", x.read(), -1);
            check.equal("a new text", Check.read(x, "8;"), 1);
            check.equal("its cents", x.cents(), 800);
            roomIs(x, ROOM);
        }
    }

    private static void theLinesOfBeforeStay() {
        check.says(3, "the lines of before stay");
        String[] faulty = {"", "!", "4", "4;5;6;7", "1;".repeat(17), "0;".repeat(16) + "+", "9 9;"};
        for (String text : faulty) {
            PriceLines x = Check.having("3;a;");
            check.isTrue("a FAULT in '" + text + "'", Check.read(x, text) < 0);
            check.equal("run", x.run(), 1);
            check.equal("cents", x.cents(), 300);
            check.line("the first", x, 0, Check.adds(3, 1));
            check.line("the second", x, 1, Check.isOpen(1, 0));
            check.noIndex("there is no third one", () -> x.line(2, 0));
        }
        PriceLines none = new PriceLines();
        check.equal("a FAULT behind a whole line", Check.read(none, "4;5"), -4);
        check.equal("no lines were before", none.cents(), 0);
        check.noIndex("nor are there now", () -> none.line(0, 0));
    }

    private static void oneOrMoreSigns() {
        check.says(3, "A line is one or more SIGNS, each one character, or more for a number, and an END");
        for (char end : ENDS.toCharArray()) {
            faultAt(String.valueOf(end), 0);
            reads("1" + end, 1);
            reads("a" + end, 1);
            faultAt("1;" + end, 2);
            faultAt("1" + end + end, 2);
        }
        PriceLines most = new PriceLines();
        check.equal("239 signs", Check.read(most, "1" + "r".repeat(ROOM - 2) + ";"), 1);
        check.equal("and what they are", most.cents(), 100);
    }

    private static void digitsOfANumber() {
        check.says(3, "a number (one to five digits)");
        String digits = "";
        for (int k = 1; k <= 5; k++) {
            digits += "9";
            PriceLines x = new PriceLines();
            check.equal("read of " + digits, Check.read(x, digits + ";"), 1);
            check.line(digits, x, 0, Check.adds(Long.parseLong(digits), 1));
        }
        check.line("00000", Check.having("00000;"), 0, Check.adds(0, 1));
        check.line("00009", Check.having("00009;"), 0, Check.adds(9, 1));
        check.says(3, "a sixth digit");
        faultAt("999999;", 5);
        faultAt("000000;", 5);
        faultAt("000001;", 5);
        faultAt("123456", 5);
        faultAt("1;12345r12345+123456+;", 19);
        reads("12345 6+;", 1);
        reads("12345a+;", 1);
        reads("12345r12345+;", 1);
        reads("12345;12345;", 2);
    }

    private static void lettersOfFacts() {
        check.says(3, "a letter a to z (a FACT)");
        faultAt("`;", 0);
        faultAt("{;", 0);
        faultAt("A;", 0);
        faultAt("Z;", 0);
        for (char c : Scene.LETTERS.toCharArray()) {
            check.line("the fact " + c, Check.having(c + ";"), 0, Check.isOpen(1, 0));
        }
        check.says(3, "r (which is no fact)");
        faultAt("r;", 0);
        reads("q;", 1);
        reads("s;", 1);
        reads("1r;", 1);
    }

    private static void heightOfTheStack() {
        check.says(3, "at most 6 high");
        reads("1 2 3 4 5 6+++++;", 1);
        reads("abcdef+++++;", 1);
        reads("abcde 12345+++++;", 1);
        reads("abcdef+g+++++;", 1);
        reads("abcdefr+++++;", 1);
        reads("abcdef+++++;".repeat(16), 16);
        check.says(3, "a seventh on the stack");
        faultAt("1 2 3 4 5 6 7++++++;", 12);
        faultAt("1 2 3 4 5 6 77777++++++;", 12);
        faultAt("abcdefg++++++;", 6);
        faultAt("abcdef1++++++;", 6);
        faultAt("1 2 3 4 5 6g++++++;", 11);
        faultAt("abcdefrg++++++;", 7);
        faultAt("abcdef+gh++++++;", 8);
        faultAt("1;abcdefg++++++;", 8);
    }

    private static void atFirstEmpty() {
        check.says(3, "a STACK (at first empty");
        faultAt("1;+", 2);
        faultAt("1;1+;", 3);
        faultAt("1;r;", 2);
        reads("1;1 1+;", 2);
        PriceLines x = new PriceLines();
        check.equal("five are left on the stack", Check.read(x, "1 2 3 4 5"), -10);
        check.equal("they are not of the next text", Check.read(x, "1 2 3 4 5 6+++++;"), 1);
        check.equal("five digits are left", Check.read(x, "12345"), -6);
        check.equal("nor are they", Check.read(x, "12345;"), 1);
        check.equal("which has its own number", x.cents(), 1234500);
    }

    private static void signsThatHaveTooFew() {
        check.says(3, "a sign that has too few");
        for (char c : OPERATORS.toCharArray()) {
            faultAt(c + ";", 0);
            faultAt("1" + c + ";", 1);
            faultAt("12345" + c + ";", 5);
            faultAt("a" + c + ";", 1);
            faultAt("1r" + c + ";", 2);
            faultAt("1 2" + c + c + ";", 4);
            reads("1 2" + c + ";", 1);
            reads("ab" + c + ";", 1);
        }
        check.says(3, "r changes the upper one");
        faultAt("r", 0);
        faultAt(" r;", 1);
        faultAt("1;r;", 2);
        reads("1r;", 1);
        reads("1rr;", 1);
    }

    private static void endsWithNoneOrSeveral() {
        check.says(3, "An END needs just one on the stack, and takes it", "an END with none or several");
        for (char end : ENDS.toCharArray()) {
            faultAt(" " + end, 1);
            faultAt("1" + end + " " + end, 3);
            reads("1" + end, 1);
            reads("1 2+" + end, 1);
            faultAt("1 2" + end, 3);
            faultAt("abc+" + end, 4);
            faultAt("abcdef" + end, 6);
            reads("a" + end + "b" + end, 2);
        }
    }

    private static void spaces() {
        check.says(3, "A space (32) parts signs and is nothing by itself");
        faultAt(" ", 1);
        faultAt("!", 0);
        faultAt("1 ;!", 3);
        check.equal("between all", Check.having("  1   2  +  ;  ").cents(), 300);
        check.equal("12 is one number", Check.having("12;").cents(), 1200);
        faultAt("1 2;", 3);
        check.equal("1 2 are two", Check.having("1 2*;").cents(), 200);
        check.line("no sign for the place", Check.having(" 12  a  + ;"), 0, Check.isOpen(1, 1));
    }

    private static void seventeenthLine() {
        check.says(3, "a 17th line");
        String sixteen = "1;".repeat(16);
        reads(sixteen, 16);
        reads(sixteen + " ", 16);
        reads(sixteen + " ".repeat(ROOM - 32), 16);
        faultAt(sixteen + "1", 32);
        faultAt(sixteen + "1;", 32);
        faultAt(sixteen + "12345;", 32);
        faultAt(sixteen + "a;", 32);
        faultAt(sixteen + "   1;", 35);
        faultAt(sixteen + ";", 32);
        faultAt(sixteen + "+", 32);
        faultAt("1;".repeat(15) + "1", 31);
    }

    private static void anyOtherCharacter() {
        check.says(3, "any other character");
        String allowed = " 0123456789" + Scene.LETTERS + "r" + OPERATORS + ENDS;
        for (char c = 32; c <= 126; c++) {
            boolean isAllowed = allowed.indexOf(c) >= 0;
            check.equal("behind two numbers: " + c, Check.read(new PriceLines(), "1 2 " + c),
                isAllowed && ENDS.indexOf(c) < 0 ? -6 : -5);
            if (!isAllowed) {
                faultAt(String.valueOf(c), 0);
                faultAt("1" + c + ";", 1);
                faultAt("1;" + c, 2);
            }
        }
    }

    private static void theTextsEnd() {
        check.says(3, "the text's end if a line is not ended, or there is none");
        faultAt("", 0);
        faultAt(" ", 1);
        faultAt(" ".repeat(ROOM), ROOM);
        faultAt("1", 1);
        faultAt("1 ", 2);
        faultAt("1 2+", 4);
        faultAt("1;2", 3);
        faultAt("1;2 ", 4);
        reads("1;2; ", 2);
        reads(" ".repeat(ROOM - 2) + "1;", 1);
        faultAt(" ".repeat(ROOM - 1) + "1", ROOM);
    }

    private static void theFirstFault() {
        check.says(3, "the first character that can't be there");
        faultAt("1+!", 1);
        faultAt("!1+", 0);
        faultAt("123456!", 5);
        faultAt("1 2;!", 3);
        faultAt("abcdefg!", 6);
        faultAt("!" + "1;".repeat(17), 0);
        faultAt("1;".repeat(17) + "!", 32);
    }
}
