import java.util.List;
import java.util.function.Consumer;
import java.util.function.Supplier;

/** Counts the answers of one test that are not as due, and ends it. */
final class Check {
    private final String name;
    private String sentence = "";
    private int checkedOfSentence;
    private int sentences;
    private int checked;
    private int wrong;

    Check(String name) {
        this.name = name;
    }

    /** Names the promise and the words of the document that the checks behind it stand for. */
    void says(int promise, String... words) {
        endSentence();
        sentences += words.length;
        sentence = "promise " + promise + ", \"" + String.join(" .. ", words) + "\": ";
    }

    void equal(String what, long got, long due) {
        count();
        if (got != due) {
            report(what + " answered " + got + ", due is " + due);
        }
    }

    void isTrue(String what, boolean got) {
        count();
        if (!got) {
            report(what + " is not so");
        }
    }

    void isFalse(String what, boolean got) {
        isTrue("not: " + what, !got);
    }

    void refuses(String what, Class<? extends RuntimeException> due, Runnable call) {
        count();
        try {
            call.run();
            report(what + " threw nothing, due is " + due.getSimpleName());
        } catch (RuntimeException e) {
            if (e.getClass() != due) {
                report(what + " threw " + e.getClass().getSimpleName() + ", due is " + due.getSimpleName());
            }
        }
    }

    void noIndex(String what, Runnable call) {
        refuses(what, IndexOutOfBoundsException.class, call);
    }

    void noArgument(String what, Runnable call) {
        refuses(what, IllegalArgumentException.class, call);
    }

    void noState(String what, Runnable call) {
        refuses(what, IllegalStateException.class, call);
    }

    void noIndexKeeping(String what, Supplier<PriceLines> scene, Consumer<PriceLines> call) {
        refusesKeeping(what, IndexOutOfBoundsException.class, scene, call);
    }

    void noArgumentKeeping(String what, Supplier<PriceLines> scene, Consumer<PriceLines> call) {
        refusesKeeping(what, IllegalArgumentException.class, scene, call);
    }

    void noStateKeeping(String what, Supplier<PriceLines> scene, Consumer<PriceLines> call) {
        refusesKeeping(what, IllegalStateException.class, scene, call);
    }

    /** "A call that throws changes nothing": its object then answers all that one without that call answers. */
    private void refusesKeeping(String what, Class<? extends RuntimeException> due, Supplier<PriceLines> scene,
            Consumer<PriceLines> call) {
        PriceLines called = scene.get();
        refuses(what, due, () -> call.accept(called));
        same(what + " throws, but \"A call that throws changes nothing\":", Scene.look(called), Scene.look(scene.get()));
    }

    /** Both looks have the same answers. */
    void same(String what, List<String> got, List<String> due) {
        isTrue(what + " as many answers", got.size() == due.size());
        for (int k = 0; k < got.size() && k < due.size(); k++) {
            if (!got.get(k).equals(due.get(k))) {
                report(what + " " + got.get(k) + ", due is " + due.get(k));
            }
        }
    }

    static void type(PriceLines x, String text) {
        for (int k = 0; k < text.length(); k++) {
            if (!x.unit(text.charAt(k))) {
                throw new AssertionError("no room for " + text);
            }
        }
    }

    /** Types a text and reads it. */
    static int read(PriceLines x, String text) {
        type(x, text);
        return x.read();
    }

    static PriceLines having(String text) {
        PriceLines x = new PriceLines();
        if (read(x, text) < 0) {
            throw new AssertionError("a fault in " + text);
        }
        return x;
    }

    /** What line k added, its reason and its place. */
    void line(String what, PriceLines x, int k, long[] due) {
        for (int part = 0; part < 4; part++) {
            equal(what + ": line(" + k + ", " + part + ")", x.line(k, part), due[part]);
        }
    }

    static long[] adds(long above, long below) {
        return new long[] {above, below, 0, PriceLines.NONE};
    }

    static long[] isOpen(long reason, long place) {
        return new long[] {0, 1, reason, place};
    }

    void end() {
        endSentence();
        String named = sentences == 0 ? "" : sentences + " sentences, ";
        System.out.println(name + ": " + named + checked + " checks, " + wrong + " wrong");
        if (wrong != 0) {
            System.exit(1);
        }
    }

    private void count() {
        checked++;
        checkedOfSentence++;
    }

    // A sentence that is only named would look tested.
    private void endSentence() {
        if (sentences > 0 && checkedOfSentence == 0) {
            report("nothing is checked");
        }
        checkedOfSentence = 0;
    }

    private void report(String text) {
        wrong++;
        System.out.println(name + ": " + sentence + text);
    }
}
