import java.util.Map;
import java.util.function.Predicate;
import java.util.function.Supplier;
import java.util.function.ToLongFunction;

/**
 * Shows of a call that it is refused: it answers what is due, and then all is, and all goes on, as
 * on a link on which it was not made. Each link is used for fewer than 512 calls.
 */
final class Refused {
    private static final int FUTURES = 4;

    private final Due due;
    private final Map<String, Supplier<CommandLink>> scenes = Scenes.all();

    Refused(Due due) {
        this.due = due;
    }

    /** A call that answers NONE, in whatever state. */
    void none(String text, ToLongFunction<CommandLink> call) {
        number(text, CommandLink.NONE, call);
    }

    /** A call that answers false, in whatever state. */
    void no(String text, Predicate<CommandLink> call) {
        number(text, 0, x -> call.test(x) ? 1 : 0);
    }

    /** A call that answers this, in whatever state. */
    void number(String text, long want, ToLongFunction<CommandLink> call) {
        for (Map.Entry<String, Supplier<CommandLink>> scene : scenes.entrySet()) {
            numberIn(text + " (" + scene.getKey() + ")", scene.getValue(), want, call);
        }
    }

    void noneIn(String text, Supplier<CommandLink> scene, ToLongFunction<CommandLink> call) {
        numberIn(text, scene, CommandLink.NONE, call);
    }

    void noIn(String text, Supplier<CommandLink> scene, Predicate<CommandLink> call) {
        numberIn(text, scene, 0, x -> call.test(x) ? 1 : 0);
    }

    /** A call that answers this, and of which nothing stays. */
    void numberIn(String text, Supplier<CommandLink> scene, long want, ToLongFunction<CommandLink> call) {
        for (int future = 0; future < FUTURES; future++) {
            CommandLink with = scene.get();
            due.is(text, want, call.applyAsLong(with));
            String changed = goOn(with, future);
            due.is(text + ", nothing has changed", goOn(scene.get(), future), changed);
        }
    }

    /** What there is to see now, or behind what brings to light what can't be asked for. */
    private static String goOn(CommandLink x, int future) {
        StringBuilder s = new StringBuilder();
        if (future == 1) {
            s.append(x.feed(0, 0, 0, 0, 0)).append(' ').append(x.plan()).append(' ').append(x.run(24)).append(' ');
            s.append(x.tick(9)).append(' ');
        }
        if (future == 2) {
            s.append(x.direct(1)).append(' ').append(x.tick(12)).append(' ').append(x.take()).append(' ');
            s.append(x.tick(30)).append(' ');
        }
        if (future == 3) {
            for (int n = 1; n <= 8; n++) {
                s.append(x.fate(true, n)).append(' ').append(x.fate(false, n)).append(' ');
            }
            s.append(x.image(false)).append(' ');
        }
        return s.append(Ask.everything(x)).toString();
    }
}
