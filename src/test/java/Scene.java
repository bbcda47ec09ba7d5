import java.util.ArrayList;
import java.util.List;
import java.util.function.Supplier;

/** Objects in the midst of their use, and a look at all that an object holds. */
final class Scene {
    static final String LETTERS = "abcdefghijklmnopqstuvwxyz";

    private static final int[] DAYS = {0, 9, 10, 11, 19, 20, 21, 29, 30, 40, 50, 60, 70, 79, 80, 81, 90, 10000};

    private final PriceLines x;
    private final List<String> seen = new ArrayList<>();

    private Scene(PriceLines x) {
        this.x = x;
    }

    /** Two currency rows (of the days 10, 20), two offers (until 100, 101), two invoices; the second line is OPEN. */
    static PriceLines busy() {
        PriceLines x = filled(2);
        x.forget('c');
        return x;
    }

    /** As busy, but without an OPEN line, and with a third offer (until 102), which is below 0. */
    static PriceLines owing() {
        PriceLines x = filled(2);
        x.fact('a', -50, 1);
        x.offer(102);
        return x;
    }

    /** Eight currency rows (10, 20 .. 80), offers (until 100 .. 107) and invoices; no line is OPEN. */
    static PriceLines full() {
        return filled(8);
    }

    private static PriceLines filled(int rows) {
        PriceLines x = Check.having("a b+;c;10%");
        x.fact('b', -3, 4);
        x.fact('c', 1, 3);
        x.fact('z', 7, 10000);
        for (int k = 0; k < rows; k++) {
            x.fact('a', 10 + k, 1);
            x.currency(10 * (k + 1), k + 2, 3);
            x.offer(100 + k);
            x.invoice(k, 10 * (k + 1));
            x.refund(k, k + 1);
        }
        x.learn(0, 10);
        x.learn(0, 25);
        x.learn(7, 5);
        Check.type(x, "7 a*;8");
        return x;
    }

    /** The answers that show all that the object holds; it is used up by that. */
    static List<String> look(PriceLines x) {
        Scene scene = new Scene(x);
        scene.lines();
        scene.days();
        scene.offersAndInvoices();
        scene.text();
        scene.facts();
        scene.room();
        scene.minutes();
        return scene.seen;
    }

    private void see(String what, Supplier<Object> call) {
        try {
            seen.add(what + " answered " + call.get());
        } catch (RuntimeException e) {
            seen.add(what + " threw " + e.getClass().getSimpleName());
        }
    }

    private void lines() {
        see("run", x::run);
        see("cents", x::cents);
        for (int k = 0; k < 4; k++) {
            for (int part = 0; part < 4; part++) {
                int row = k;
                int column = part;
                see("line " + k + ", " + part, () -> x.line(row, column));
            }
        }
    }

    private void days() {
        for (int day : DAYS) {
            see("centsAt " + day, () -> x.centsAt(day));
        }
    }

    private void offersAndInvoices() {
        for (int k = 0; k < 9; k++) {
            int number = k;
            see("offered " + k, () -> x.offered(number, 0));
            see("offered at 100 + " + k, () -> x.offered(number, 100 + number));
            see("offered at 101 + " + k, () -> x.offered(number, 101 + number));
            see("left " + k, () -> x.left(number));
        }
    }

    private void text() {
        see("a digit more", () -> x.unit('7'));
        see("an END more", () -> x.unit(';'));
        see("read", x::read);
        lines();
    }

    private void facts() {
        values(LETTERS.substring(0, 16));
        values(LETTERS.substring(16));
        for (char c : LETTERS.toCharArray()) {
            see("forget " + c, () -> x.forget(c));
        }
    }

    private void values(String letters) {
        Check.read(x, letters.replaceAll(".", "$0;"));
        for (int k = 0; k < letters.length(); k++) {
            int row = k;
            see("above of " + letters.charAt(k), () -> x.line(row, 0));
            see("below of " + letters.charAt(k), () -> x.line(row, 1));
        }
    }

    private void room() {
        Check.read(x, "1;");
        see("a row more", () -> x.currency(10000, 1, 1));
        see("an offer more", () -> x.offer(10000));
        see("an invoice more", () -> x.invoice(0, 0));
    }

    private void minutes() {
        for (int k = 0; k < 8; k++) {
            int kind = k;
            see("learn " + k + ", 0", () -> x.learn(kind, 0));
            see("learn " + k + ", 100000", () -> x.learn(kind, 100000));
        }
    }
}
