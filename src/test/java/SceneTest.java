import java.util.function.Consumer;
import java.util.function.Supplier;

/** The look that the boundary tests trust sees each change, and stays within the calls of one object. */
public final class SceneTest {
    private static final Check check = new Check("SceneTest");
    private static final int MOST_CALLS = 512;
    // Typing the two texts of facts and the last one, which the look does not note.
    private static final int CALLS_NOT_NOTED = 32 + 1 + 18 + 1 + 2 + 1;
    // The longest way to a scene: 11 for the lines, 3 facts, 8 times 5 calls, 3 kinds, 6 characters.
    private static final int CALLS_OF_SCENE = 11 + 3 + 40 + 3 + 6;

    public static void main(String[] args) {
        theSameSceneLooksTheSame();
        changesOf(Scene::busy, "busy");
        changesOf(Scene::owing, "owing");
        changesOf(PriceLines::new, "new");
        sees("full: a refund", Scene::full, x -> x.refund(7, 1));
        sees("full: read", Scene::full, PriceLines::read);
        check.end();
    }

    private static void theSameSceneLooksTheSame() {
        check.same("new", Scene.look(new PriceLines()), Scene.look(new PriceLines()));
        check.same("busy", Scene.look(Scene.busy()), Scene.look(Scene.busy()));
        check.same("owing", Scene.look(Scene.owing()), Scene.look(Scene.owing()));
        check.same("full", Scene.look(Scene.full()), Scene.look(Scene.full()));
        int calls = CALLS_OF_SCENE + 1 + Scene.look(Scene.full()).size() + CALLS_NOT_NOTED;
        check.isTrue(calls + " calls are within those of an object", calls <= MOST_CALLS);
    }

    private static void changesOf(Supplier<PriceLines> scene, String name) {
        sees(name + ": a character", scene, x -> x.unit('9'));
        sees(name + ": a character that can't be there", scene, x -> x.unit('!'));
        for (char c : Scene.LETTERS.toCharArray()) {
            sees(name + ": fact " + c, scene, x -> x.fact(c, 999, 1000));
        }
        sees(name + ": a currency row", scene, x -> x.currency(10000, 1, 1));
        for (int k = 0; k < 8; k++) {
            int kind = k;
            sees(name + ": 0 minutes of " + k, scene, x -> x.learn(kind, 0));
            sees(name + ": 9 minutes of " + k, scene, x -> x.learn(kind, 9));
        }
        if (!name.equals("new")) {
            sees(name + ": read", scene, PriceLines::read);
            sees(name + ": forget b", scene, x -> x.forget('b'));
            sees(name + ": forget z", scene, x -> x.forget('z'));
            sees(name + ": an invoice", scene, x -> x.invoice(0, 0));
            sees(name + ": a refund", scene, x -> x.refund(1, 1));
        }
        if (!name.equals("busy")) {
            sees(name + ": an offer", scene, x -> x.offer(10000));
        }
    }

    private static void sees(String what, Supplier<PriceLines> scene, Consumer<PriceLines> change) {
        PriceLines x = scene.get();
        change.accept(x);
        check.isFalse(what + " is not seen", Scene.look(x).equals(Scene.look(scene.get())));
    }
}
