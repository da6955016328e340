import java.lang.reflect.InvocationTargetException;
import java.lang.reflect.Method;
import java.lang.reflect.Modifier;
import java.util.Arrays;
import java.util.Map;
import java.util.Random;
import java.util.function.Supplier;

/**
 * "No call may ever throw or fail to end, for any arguments in any state" (LANGUAGE.md, rule 7): every
 * method in every scene, with the lowest and highest ints and those on either side of each bound, and
 * behind them all that the document bounds is within its bounds.
 */
public final class AnyArgumentsTest {
    private static final Due DUE = new Due("AnyArgumentsTest");
    private static final int[] INTS = {Integer.MIN_VALUE, Integer.MIN_VALUE + 1, -100000, -257, -256, -255, -60, -2, -1,
        0, 1, 2, 3, 4, 5, 6, 7, 8, 9, 10, 11, 12, 19, 20, 21, 24, 25, 39, 40, 41, 47, 48, 49, 59, 60, 61, 79, 80, 81,
        90, 91, 99, 100, 101, 119, 120, 127, 128, 199, 200, 201, 219, 220, 254, 255, 256, 257, 299, 300, 380, 399, 400,
        401, 9998, 9999, 10000, 65535, 65536, 100000, Integer.MAX_VALUE - 1, Integer.MAX_VALUE};
    private static final int CALLS = 512;
    private static final int QUESTIONS = 40;
    private static final int OBJECTS = 40;

    private final Random random;
    private final CommandLink link;
    private final String scene;

    private AnyArgumentsTest(int seed, String scene, CommandLink link) {
        random = new Random(seed);
        this.scene = scene;
        this.link = link;
    }

    public static void main(String[] args) throws Exception {
        for (Map.Entry<String, Supplier<CommandLink>> scene : Scenes.all().entrySet()) {
            everyMethodAlone(scene.getKey(), scene.getValue());
            for (int seed = 0; seed < OBJECTS; seed++) {
                new AnyArgumentsTest(seed, scene.getKey(), scene.getValue().get()).callMany();
            }
        }
        DUE.end();
    }

    /** Every method with every one of the ints as each of its arguments, on an object of its own. */
    private static void everyMethodAlone(String scene, Supplier<CommandLink> made) throws Exception {
        for (Method m : CommandLink.class.getDeclaredMethods()) {
            if (!Modifier.isPublic(m.getModifiers())) {
                continue;
            }
            for (int at = 0; at < Math.max(1, m.getParameterCount()); at++) {
                for (int v : INTS) {
                    AnyArgumentsTest one = new AnyArgumentsTest(v, scene, made.get());
                    Object[] args = one.arguments(m);
                    if (m.getParameterCount() > 0 && m.getParameterTypes()[at] == int.class) {
                        args[at] = v;
                    }
                    one.call(m, args);
                    one.areWithinBounds();
                }
            }
        }
    }

    /** Many calls on one object. */
    private void callMany() throws Exception {
        Method[] methods = Arrays.stream(CommandLink.class.getDeclaredMethods())
                .filter(m -> Modifier.isPublic(m.getModifiers())).toArray(Method[]::new);
        Arrays.sort(methods, (a, b) -> a.getName().compareTo(b.getName()));
        for (int made = 100; made < CALLS - QUESTIONS; made++) {
            Method m = methods[random.nextInt(methods.length)];
            call(m, arguments(m));
        }
        areWithinBounds();
    }

    private Object[] arguments(Method m) {
        Object[] args = new Object[m.getParameterCount()];
        for (int i = 0; i < args.length; i++) {
            args[i] = m.getParameterTypes()[i] == int.class ? (Object) INTS[random.nextInt(INTS.length)]
                    : (Object) random.nextBoolean();
        }
        return args;
    }

    private void call(Method m, Object[] args) throws Exception {
        String thrown = "";
        try {
            m.invoke(link, args);
        } catch (InvocationTargetException e) {
            thrown = e.getCause().toString();
        }
        DUE.is(m.getName() + Arrays.toString(args) + " (" + scene + ")", "", thrown);
    }

    private void within(String what, int least, int most, int got) {
        DUE.is(what + " is " + got + " (" + scene + ")", true, got >= least && got <= most);
    }

    private void areWithinBounds() {
        within("18 MACHINE", 1, 6, link.sender(0));
        within("18 NUMBER", 0, 255, link.sender(1));
        within("18 SEEN", 0, 255, link.sender(2));
        within("18 LINE", 0, 8, link.sender(3));
        within("18 SENT", 0, 20, link.sender(4));
        within("18 MARKED", 0, link.sender(4), link.sender(5));
        within("18 PASSING", 0, 4, link.sender(6));
        within("18 TRIES", 0, 10, link.sender(7));
        within("18 TIMER", 0, 99, link.sender(8));
        within("18 HELD", 0, link.sender(0) == 6 ? 5 : 0, link.sender(9));
        within("18 DIRECTIVE", -1, 1, link.sender(10));
        within("19 NEXT", 0, 255, link.receiver(0));
        within("19 COUNT", 0, 3, link.receiver(4));
        within("19 lie there", 0, 8, link.receiver(5));
        within("20 FRAMES", 0, 40, link.way(true, -1, 0));
        within("20 REPORTS", 0, 40, link.way(false, -1, 0));
        within("25 THE DIARY", 0, 80, link.diary(-1, 0));
        within("26 THE LEDGER", 0, 100, link.ledger(-1, 0));
        within("31 SOON", -1, 400, link.soon());
        within("32 WAYS OUT", 0, 31, link.ways());
        within("34 TICK", 0, 9999, link.look(0));
        within("34 LOSS and SPOILT", 0, 90, link.look(9) + link.look(10));
        within("34 the plan", 0, 24, link.look(18));
        within("34 lines that were run", 0, link.look(18), link.look(19));
    }
}
