import java.math.BigInteger;
import java.util.ArrayDeque;
import java.util.ArrayList;
import java.util.Arrays;
import java.util.Deque;
import java.util.HashMap;
import java.util.List;
import java.util.Map;

/** The document once more, over the Java library and without care for room, to compare PriceLines with. */
final class Model {
    private static final BigInteger LIMIT = BigInteger.valueOf(1000000000L);
    private static final BigInteger HUNDRED = BigInteger.valueOf(100);

    /** An exact fraction without a common divisor. */
    record Exact(BigInteger above, BigInteger below) {
        static Exact of(BigInteger above, BigInteger below) {
            BigInteger divisor = above.gcd(below).multiply(BigInteger.valueOf(below.signum()));
            return new Exact(above.divide(divisor), below.divide(divisor));
        }

        static Exact of(long above, long below) {
            return of(BigInteger.valueOf(above), BigInteger.valueOf(below));
        }

        Exact plus(Exact o) {
            return of(above.multiply(o.below).add(o.above.multiply(below)), below.multiply(o.below));
        }

        Exact minus(Exact o) {
            return plus(of(o.above.negate(), o.below));
        }

        Exact times(Exact o) {
            return of(above.multiply(o.above), below.multiply(o.below));
        }

        Exact over(Exact o) {
            return of(above.multiply(o.below), below.multiply(o.above));
        }

        boolean isZero() {
            return above.signum() == 0;
        }

        boolean isBeyond() {
            return above.abs().compareTo(LIMIT) > 0 || below.compareTo(LIMIT) > 0;
        }

        BigInteger floor() {
            BigInteger[] parts = above.divideAndRemainder(below);
            return parts[1].signum() < 0 ? parts[0].subtract(BigInteger.ONE) : parts[0];
        }

        BigInteger roundedHundredths() {
            return times(of(100, 1)).plus(of(1, 2)).floor();
        }
    }

    record Row(Exact added, int reason, int place) { }

    record Result(Exact total, List<Row> rows) {
        long cents() {
            return total.roundedHundredths().longValueExact();
        }

        int open() {
            return (int) rows.stream().filter(row -> row.reason != 0).count();
        }
    }

    /** Thrown inside a line when it becomes OPEN. */
    private static final class Opened extends RuntimeException {
        private static final long serialVersionUID = 1L;
        private final int reason;

        Opened(int reason) {
            this.reason = reason;
        }
    }

    private final StringBuilder text = new StringBuilder();
    private List<List<String>> lines = new ArrayList<>();
    private final Map<Integer, Exact> facts = new HashMap<>();
    private final List<int[]> currencies = new ArrayList<>();
    private final List<long[]> offers = new ArrayList<>();
    private final List<Long> invoices = new ArrayList<>();
    private final Map<Integer, List<Integer>> learned = new HashMap<>();

    private static void index(boolean isFine) {
        if (!isFine) {
            throw new IndexOutOfBoundsException();
        }
    }

    private static void argument(boolean isFine) {
        if (!isFine) {
            throw new IllegalArgumentException();
        }
    }

    private static void state(boolean isFine) {
        if (!isFine) {
            throw new IllegalStateException();
        }
    }

    private static boolean isIn(long number, long least, long most) {
        return least <= number && number <= most;
    }

    long unit(int u) {
        if (text.length() == 240 || !isIn(u, 32, 126)) {
            return 0;
        }
        text.append((char) u);
        return 1;
    }

    long read() {
        String whole = text.toString();
        text.setLength(0);
        List<List<String>> found = new ArrayList<>();
        List<String> current = new ArrayList<>();
        int high = 0;
        for (int k = 0; k < whole.length(); k++) {
            char c = whole.charAt(k);
            if (c == ' ') {
                continue;
            }
            boolean isEnd = ";%=".indexOf(c) >= 0;
            int needs = isEnd || c == 'r' ? 1 : "+-*/<>".indexOf(c) >= 0 ? 2 : 0;
            boolean isDigit = Character.isDigit(c);
            boolean isLaid = isDigit || Character.isLowerCase(c) && c != 'r';
            boolean isFault = needs == 0 && !isLaid || high < needs || isEnd && high != 1
                || isLaid && high == 6 || found.size() == 16;
            if (isFault) {
                return -1 - k;
            }
            int behind = k + 1;
            while (isDigit && behind < whole.length() && Character.isDigit(whole.charAt(behind))) {
                if (behind - k == 5) {
                    return -1 - behind;
                }
                behind++;
            }
            current.add(whole.substring(k, behind));
            k = behind - 1;
            high += isLaid ? 1 : needs == 2 ? -1 : 0;
            if (isEnd) {
                found.add(current);
                current = new ArrayList<>();
                high = 0;
            }
        }
        if (found.isEmpty() || !current.isEmpty()) {
            return -1 - whole.length();
        }
        lines = found;
        return found.size();
    }

    private static void checkFact(int letter, int above, int below) {
        index(isIn(letter, 'a', 'z') && letter != 'r');
        argument(isIn(below, 1, 10000) && isIn(above, -1000000, 1000000));
    }

    long fact(int letter, int above, int below) {
        checkFact(letter, above, below);
        facts.put(letter, Exact.of(above, below));
        return 0;
    }

    long forget(int letter) {
        checkFact(letter, 0, 1);
        return facts.remove(letter) == null ? 0 : 1;
    }

    private static Exact within(Exact number) {
        if (number.isBeyond()) {
            throw new Opened(3);
        }
        return number;
    }

    private static Exact reckoned(char sign, Exact lower, Exact upper) {
        switch (sign) {
            case '+': return within(lower.plus(upper));
            case '-': return within(lower.minus(upper));
            case '*': return within(lower.times(upper));
            case '/':
                if (upper.isZero()) {
                    throw new Opened(2);
                }
                return within(lower.over(upper));
            case '<': return lower.minus(upper).above.signum() < 0 ? lower : upper;
            default: return lower.minus(upper).above.signum() > 0 ? lower : upper;
        }
    }

    private static void apply(String sign, Deque<Exact> stack, Map<Integer, Exact> known) {
        char c = sign.charAt(0);
        if (Character.isDigit(c)) {
            stack.push(Exact.of(Long.parseLong(sign), 1));
        } else if (c == 'r') {
            stack.push(within(Exact.of(stack.pop().roundedHundredths(), HUNDRED)));
        } else if (Character.isLowerCase(c)) {
            Exact value = known.get((int) c);
            if (value == null) {
                throw new Opened(1);
            }
            stack.push(value);
        } else {
            Exact upper = stack.pop();
            stack.push(reckoned(c, stack.pop(), upper));
        }
    }

    private static Exact share(String end, Exact it, Exact total) {
        switch (end) {
            case "%": return within(within(it.over(Exact.of(100, 1))).times(total));
            case "=": return within(it.minus(total));
            default: return it;
        }
    }

    Result reckon(Map<Integer, Exact> known) {
        Exact total = Exact.of(0, 1);
        List<Row> rows = new ArrayList<>();
        for (List<String> signs : lines) {
            Deque<Exact> stack = new ArrayDeque<>();
            int place = 0;
            try {
                for (; place < signs.size() - 1; place++) {
                    apply(signs.get(place), stack, known);
                }
                Exact added = share(signs.get(place), stack.pop(), total);
                total = within(total.plus(added));
                rows.add(new Row(added, 0, -1));
            } catch (Opened e) {
                rows.add(new Row(Exact.of(0, 1), e.reason, place));
            }
        }
        return new Result(total, rows);
    }

    long run() {
        return reckon(facts).open();
    }

    long cents() {
        return reckon(facts).cents();
    }

    long line(int k, int part) {
        index(isIn(k, 0, lines.size() - 1) && isIn(part, 0, 3));
        Row row = reckon(facts).rows.get(k);
        long[] parts = {row.added.above.longValueExact(), row.added.below.longValueExact(), row.reason, row.place};
        return parts[part];
    }

    long changed(int letter, int above, int below) {
        checkFact(letter, above, below);
        Map<Integer, Exact> supposed = new HashMap<>(facts);
        supposed.put(letter, Exact.of(above, below));
        return reckon(supposed).cents() - cents();
    }

    long currency(int day, int above, int below) {
        argument(isIn(day, 0, 10000) && isIn(above, 1, 1000) && isIn(below, 1, 1000));
        argument(currencies.isEmpty() || currencies.get(currencies.size() - 1)[0] < day);
        state(currencies.size() < 8);
        currencies.add(new int[] {day, above, below});
        return currencies.size();
    }

    private long at(long cents, int day) {
        return currencies.stream().filter(row -> row[0] <= day).reduce((one, next) -> next)
            .map(row -> Exact.of(cents * row[1], row[2]).floor().longValueExact()).orElse(cents);
    }

    long centsAt(int day) {
        argument(isIn(day, 0, 10000));
        return at(cents(), day);
    }

    long offer(int until) {
        argument(isIn(until, 0, 10000));
        state(offers.size() < 8 && run() == 0);
        offers.add(new long[] {cents(), until});
        return offers.size() - 1;
    }

    long offered(int offer, int day) {
        index(isIn(offer, 0, offers.size() - 1));
        argument(isIn(day, 0, 10000));
        state(day <= offers.get(offer)[1]);
        return offers.get(offer)[0];
    }

    long differs(int offer, int other) {
        index(isIn(offer, 0, offers.size() - 1) && isIn(other, 0, offers.size() - 1));
        return offers.get(offer)[0] - offers.get(other)[0];
    }

    long invoice(int offer, int day) {
        long offeredCents = offered(offer, day);
        state(invoices.size() < 8 && at(offeredCents, day) >= 0);
        invoices.add(at(offeredCents, day));
        return invoices.size() - 1;
    }

    long left(int invoice) {
        index(isIn(invoice, 0, invoices.size() - 1));
        return invoices.get(invoice);
    }

    long refund(int invoice, int cents) {
        index(isIn(invoice, 0, invoices.size() - 1));
        argument(cents >= 0);
        if (cents > invoices.get(invoice)) {
            return 0;
        }
        invoices.set(invoice, invoices.get(invoice) - cents);
        return 1;
    }

    long learn(int kind, int minutes) {
        index(isIn(kind, 0, 7));
        argument(isIn(minutes, 0, 100000));
        learned.computeIfAbsent(kind, k -> new ArrayList<>()).add(minutes);
        return learned.get(kind).stream().mapToLong(Integer::longValue).sum() / learned.get(kind).size();
    }

    /** The answer to a call by the name of its method, or a text that names the exception. */
    String answer(String name, int[] a) {
        try {
            return String.valueOf(call(name, a));
        } catch (IndexOutOfBoundsException | IllegalArgumentException | IllegalStateException e) {
            return "throws." + e.getClass().getSimpleName();
        }
    }

    private long call(String name, int[] a) {
        switch (name) {
            case "unit": return unit(a[0]);
            case "read": return read();
            case "fact": return fact(a[0], a[1], a[2]);
            case "forget": return forget(a[0]);
            case "run": return run();
            case "cents": return cents();
            case "line": return line(a[0], a[1]);
            case "changed": return changed(a[0], a[1], a[2]);
            case "currency": return currency(a[0], a[1], a[2]);
            case "centsAt": return centsAt(a[0]);
            case "offer": return offer(a[0]);
            case "offered": return offered(a[0], a[1]);
            case "differs": return differs(a[0], a[1]);
            case "invoice": return invoice(a[0], a[1]);
            case "left": return left(a[0]);
            case "refund": return refund(a[0], a[1]);
            case "learn": return learn(a[0], a[1]);
            default: throw new AssertionError(name + Arrays.toString(a));
        }
    }
}
