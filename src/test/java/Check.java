/** Counts the answers of one test that are not as due, and ends it. */
final class Check {
    private final String name;
    private int checked;
    private int wrong;

    Check(String name) {
        this.name = name;
    }

    void equal(String what, long got, long due) {
        checked++;
        if (got != due) {
            report(what + " answered " + got + ", due is " + due);
        }
    }

    void isTrue(String what, boolean got) {
        checked++;
        if (!got) {
            report(what + " is not so");
        }
    }

    void isFalse(String what, boolean got) {
        isTrue("not: " + what, !got);
    }

    void refuses(String what, Class<? extends RuntimeException> due, Runnable call) {
        checked++;
        try {
            call.run();
            report(what + " threw nothing, due is " + due.getSimpleName());
        } catch (RuntimeException e) {
            if (e.getClass() != due) {
                report(what + " threw " + e.getClass().getSimpleName() + ", due is " + due.getSimpleName());
            }
        }
    }

    void noIndex(String what, Runnable call) {
        refuses(what, IndexOutOfBoundsException.class, call);
    }

    void noArgument(String what, Runnable call) {
        refuses(what, IllegalArgumentException.class, call);
    }

    void noState(String what, Runnable call) {
        refuses(what, IllegalStateException.class, call);
    }

    /** Types a text and reads it. */
    static int read(PriceLines x, String text) {
        for (int k = 0; k < text.length(); k++) {
            if (!x.unit(text.charAt(k))) {
                throw new AssertionError("no room for " + text);
            }
        }
        return x.read();
    }

    static PriceLines having(String text) {
        PriceLines x = new PriceLines();
        if (read(x, text) < 0) {
            throw new AssertionError("a fault in " + text);
        }
        return x;
    }

    /** What line k added, its reason and its place. */
    void line(String what, PriceLines x, int k, long[] due) {
        for (int part = 0; part < 4; part++) {
            equal(what + ": line(" + k + ", " + part + ")", x.line(k, part), due[part]);
        }
    }

    static long[] adds(long above, long below) {
        return new long[] {above, below, 0, PriceLines.NONE};
    }

    static long[] isOpen(long reason, long place) {
        return new long[] {0, 1, reason, place};
    }

    void end() {
        System.out.println(name + ": " + checked + " checks, " + wrong + " wrong");
        if (wrong != 0) {
            System.exit(1);
        }
    }

    private void report(String text) {
        wrong++;
        System.out.println(name + ": " + text);
    }
}
