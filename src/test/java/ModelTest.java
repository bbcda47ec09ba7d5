import java.util.Arrays;
import java.util.Random;

/** Random runs of calls (the same ones each time): PriceLines and the model answer alike. */
public final class ModelTest {
    private static final int RUNS = 4000;
    private static final int CALLS = 512;
    private static final int[] EDGES = {
        Integer.MIN_VALUE, -1000001, -1000000, -2, -1, 0, 1, 2, 3, 4, 7, 8, 15, 16, 96, 97, 114, 122, 123, 1000, 1001,
        10000, 10001, 100000, 100001, 1000000, 1000001, Integer.MAX_VALUE};
    private static final String LETTERS = "abcdefqsz";

    private final Random random;
    private final PriceLines x = new PriceLines();
    private final Model model = new Model();
    private final StringBuilder told = new StringBuilder();
    private int calls;
    private boolean isWrong;

    private ModelTest(long seed) {
        random = new Random(seed);
    }

    public static void main(String[] args) {
        Check check = new Check("ModelTest");
        for (int seed = 0; seed < RUNS; seed++) {
            ModelTest test = new ModelTest(seed);
            test.play();
            check.isFalse("run " + seed + " differs:" + (test.isWrong ? test.told : ""), test.isWrong);
        }
        check.end();
    }

    private void play() {
        while (calls < CALLS && !isWrong) {
            if (random.nextInt(12) == 0) {
                type(random.nextInt(4) == 0 ? noise() : text());
                call("read");
            } else {
                callSome();
            }
        }
    }

    private void type(String text) {
        for (int k = 0; k < text.length(); k++) {
            call("unit", text.charAt(k));
        }
    }

    private void callSome() {
        switch (random.nextInt(20)) {
            case 0: case 1: call("fact", letter(), above(), below()); break;
            case 2: call("forget", letter()); break;
            case 3: call("run"); break;
            case 4: call("cents"); break;
            case 5: case 6: case 7: lineParts(); break;
            case 8: call("changed", letter(), above(), below()); break;
            case 9: call("currency", or(random.nextInt(50)), rate(), rate()); break;
            case 10: call("centsAt", or(random.nextInt(60))); break;
            case 11: call("offer", or(random.nextInt(60))); break;
            case 12: call("offered", or(random.nextInt(9)), or(random.nextInt(60))); break;
            case 13: call("differs", or(random.nextInt(9)), or(random.nextInt(9))); break;
            case 14: call("invoice", or(random.nextInt(4)), or(random.nextInt(60))); break;
            case 15: call("left", or(random.nextInt(9))); break;
            case 16: call("refund", or(random.nextInt(9)), or(random.nextInt(2000))); break;
            case 17: call("learn", or(random.nextInt(8)), or(random.nextInt(1000))); break;
            case 18: call("unit", or(32 + random.nextInt(95))); break;
            default: call("read"); break;
        }
    }

    private void lineParts() {
        int k = or(random.nextInt(5));
        for (int part = 0; part < 4; part++) {
            call("line", k, part);
        }
        call("line", k, or(part()));
    }

    private int part() {
        return random.nextInt(4);
    }

    private int or(int usual) {
        return random.nextInt(15) == 0 ? EDGES[random.nextInt(EDGES.length)] : usual;
    }

    private int letter() {
        return or(LETTERS.charAt(random.nextInt(LETTERS.length())));
    }

    private int above() {
        int most = random.nextBoolean() ? 20 : 1000000;
        return or(random.nextInt(2 * most + 1) - most);
    }

    private int below() {
        return or(1 + random.nextInt(random.nextBoolean() ? 12 : 10000));
    }

    private int rate() {
        return or(1 + random.nextInt(random.nextBoolean() ? 5 : 1000));
    }

    private String noise() {
        String signs = "0123456789abz r+-*/<>;%=$A ";
        StringBuilder some = new StringBuilder();
        for (int k = random.nextInt(12); k >= 0; k--) {
            some.append(signs.charAt(random.nextInt(signs.length())));
        }
        return some.toString();
    }

    /** Lines that are mostly without a fault. */
    private String text() {
        StringBuilder some = new StringBuilder();
        int lines = random.nextInt(10) == 0 ? 15 + random.nextInt(3) : 1 + random.nextInt(5);
        for (int k = 0; k < lines; k++) {
            appendLine(some, lines > 5 ? 1 : 1 + random.nextInt(6));
        }
        if (random.nextInt(10) == 0) {
            some.setCharAt(random.nextInt(some.length()), "1a+; r"
                .charAt(random.nextInt(6)));
        }
        return some.toString();
    }

    private void appendLine(StringBuilder some, int numbers) {
        int height = 0;
        int laid = 0;
        while (laid < numbers || height > 1) {
            if (height > 0 && random.nextInt(8) == 0) {
                some.append('r');
            } else if (laid < numbers && (height < 2 || random.nextBoolean())) {
                appendNumber(some);
                laid++;
                height++;
            } else {
                some.append("+-*/<>*/".charAt(random.nextInt(8)));
                height--;
            }
            some.append(random.nextInt(6) == 0 ? " " : "");
        }
        some.append(";;%=".charAt(random.nextInt(4)));
    }

    private void appendNumber(StringBuilder some) {
        if (random.nextInt(3) == 0) {
            some.append(LETTERS.charAt(random.nextInt(LETTERS.length())));
        } else {
            int most = new int[] {10, 1000, 100000}[random.nextInt(3)];
            some.append(' ').append(random.nextInt(most));
        }
    }

    private void call(String name, int... a) {
        if (calls >= CALLS || isWrong) {
            return;
        }
        calls++;
        String due = model.answer(name, a);
        String got = answer(name, a);
        told.append(' ').append(name).append(Arrays.toString(a)).append('=').append(got);
        if (!got.equals(due)) {
            isWrong = true;
            told.append(", due is ").append(due);
        }
    }

    private String answer(String name, int[] a) {
        try {
            return String.valueOf(callHere(name, a));
        } catch (RuntimeException e) {
            return "throws." + e.getClass().getSimpleName();
        }
    }

    private long callHere(String name, int[] a) {
        switch (name) {
            case "unit": return x.unit(a[0]) ? 1 : 0;
            case "read": return x.read();
            case "fact": x.fact(a[0], a[1], a[2]); return 0;
            case "forget": return x.forget(a[0]) ? 1 : 0;
            case "run": return x.run();
            case "cents": return x.cents();
            case "line": return x.line(a[0], a[1]);
            case "changed": return x.changed(a[0], a[1], a[2]);
            case "currency": return x.currency(a[0], a[1], a[2]);
            case "centsAt": return x.centsAt(a[0]);
            case "offer": return x.offer(a[0]);
            case "offered": return x.offered(a[0], a[1]);
            case "differs": return x.differs(a[0], a[1]);
            case "invoice": return x.invoice(a[0], a[1]);
            case "left": return x.left(a[0]);
            case "refund": return x.refund(a[0], a[1]) ? 1 : 0;
            case "learn": return x.learn(a[0], a[1]);
            default: throw new AssertionError(name);
        }
    }
}
