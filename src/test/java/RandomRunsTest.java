import java.lang.reflect.Method;
import java.util.ArrayList;
import java.util.Arrays;
import java.util.List;
import java.util.Random;

/**
 * Random runs of calls on a CommandLink and on a PlainModel: every answer must be the same, no
 * call may throw. The seeds are fixed, so that a run that fails fails again. Each object is used
 * for 512 calls, as many as are promised; a run stops changing it at some call before that.
 */
public final class RandomRunsTest {
    private static final int RUNS = 15000;
    private static final int CALLS = 512;
    private static final int LAST_QUESTIONS = 110;
    private static final int TEMPERS = 7;
    private static final String[] WORDS = {"send", "past", "start", "check", "unlock", "set", "stop", "on",
        "renumber", "take", "tick", "lose", "drop"};

    private final Random random;
    private final CommandLink link = new CommandLink();
    private final PlainModel model = new PlainModel();
    private final List<String> calls = new ArrayList<>();
    private final int temper;
    private int made = 0;
    private static int wrong = 0;
    private static long asked = 0;

    private RandomRunsTest(int seed) {
        random = new Random(seed);
        temper = seed % TEMPERS;
    }

    public static void main(String[] args) throws Exception {
        int runs = args.length > 1 ? Integer.parseInt(args[1]) : RUNS;
        for (int seed = 0; seed < runs && wrong < 5; seed++) {
            new RandomRunsTest(seed).run(seed);
        }
        System.out.println("RandomRunsTest: " + asked + " answers, " + wrong + " runs wrong");
        if (wrong != 0) {
            System.exit(1);
        }
    }

    private void run(int seed) throws Exception {
        try {
            prepare();
            int last = 20 + random.nextInt(CALLS - LAST_QUESTIONS - 20);
            for (int i = 0; i < CALLS && made < last; i++) {
                step();
                if (random.nextInt(3) == 0) {
                    question();
                }
            }
            chiefQuestions();
            while (made < CALLS) {
                question();
            }
        } catch (IllegalStateException e) {
            wrong++;
            System.out.println("seed " + seed + ": " + e.getMessage() + "\n  behind " + calls);
        }
    }

    /** Each temper leads to other states: lossy, suspending, narrow, slow, wild, busy, often stopped. */
    private void prepare() throws Exception {
        both("state", random.nextInt());
        if (temper == 0) {
            both("set", 8, random.nextInt(30));
            both("set", 9, random.nextInt(30));
        }
        if (temper == 1) {
            both("set", 5, 1);
            both("set", 4, 1 + random.nextInt(8));
        }
        if (temper == 2) {
            both("set", 0, 2 + 2 * random.nextInt(4));
            both("set", 1, random.nextInt(3));
            both("set", 2, 1 + random.nextInt(20));
            both("set", 6, 1);
        }
        if (temper == 3) {
            both("set", 6, 1 + random.nextInt(40));
            both("set", 7, 1 + random.nextInt(40));
            both("set", 10, 1 + random.nextInt(20));
        }
        if (temper == 5) {
            both("set", 1, 8);
            both("set", 2, 8 + random.nextInt(13));
            both("set", 4, 60);
            both("set", 10, 1);
        }
        for (int i = temper == 6 ? random.nextInt(70) : 0; i > 0; i--) {
            both("start", random.nextInt(4), random.nextInt(256));
            both("direct", 0);
        }
        both("start", random.nextInt(4), random.nextInt(2) == 0 ? 246 + random.nextInt(10) : random.nextInt(256));
    }

    private void step() throws Exception {
        // Most of what there is to see happens while the machine runs.
        if (model.sender(0) == 6 && random.nextInt(4) == 0) {
            both("direct", 1);
            both("start", random.nextInt(4), model.receiver(0));
        }
        int r = random.nextInt(100);
        if (temper == 5 && (r >= 63 && r < 82 || random.nextInt(2) == 0)) {
            busyStep();
            return;
        }
        if (r < 24) {
            both("send", random.nextInt(30) == 0 ? random.nextInt(20000) - 5000 : random.nextInt(10000));
        } else if (r < 50) {
            both("tick", random.nextInt(40) == 0 ? random.nextInt(64) - 1 : 1 + random.nextInt(temper == 3 ? 12 : 5));
        } else if (r < 60) {
            both("take");
        } else if (r < 63) {
            both("past", random.nextInt(10050));
        } else if (r < 68) {
            restart();
        } else if (r < 70) {
            both("drop", random.nextBoolean(), random.nextInt(5) - 1);
        } else if (r < 76) {
            tamper();
        } else if (r < 78) {
            both("fate", random.nextBoolean(), random.nextInt(10) == 0 ? random.nextInt(104) - 2 : 1 + random.nextInt(6));
        } else if (r < 82) {
            change();
        } else if (r < 86) {
            both("soon");
        } else if (r < 88) {
            both("ways");
        } else if (r < 90) {
            both("image", random.nextInt(3) != 0);
        } else if (r < 93) {
            text();
        } else if (r < 96) {
            both("run", random.nextInt(26));
        } else {
            oddQuestion();
        }
    }

    /** Many commands in few calls: the ledger has its hundred lines before the calls are used up. */
    private void busyStep() throws Exception {
        for (int i = 1 + random.nextInt(8); i > 0; i--) {
            both("send", random.nextInt(10000));
        }
        both("tick", 1 + random.nextInt(12));
        for (int i = model.receiver(5); i > 0; i--) {
            both("take");
        }
    }

    private void restart() throws Exception {
        int r = random.nextInt(10);
        if (r < 4) {
            both("start", random.nextInt(7) - 1, random.nextInt(4) == 0 ? model.receiver(0) : random.nextInt(260) - 2);
        } else if (r < 7) {
            both("direct", 1);
        } else if (r < 8) {
            both("direct", random.nextInt(4) - 1);
        } else {
            both("renumber", random.nextInt(3) != 0 ? model.receiver(0) : random.nextInt(260) - 2);
        }
    }

    /** A byte of one on its way, often with the CHECK made good again. */
    private void tamper() throws Exception {
        if (random.nextInt(4) == 0) {
            numberAnew();
            return;
        }
        boolean up = random.nextBoolean();
        int count = model.way(up, -1, 0);
        int i = random.nextInt(count + 1);
        int last = up ? 4 : 2;
        int k = random.nextInt(last + 2) - (random.nextInt(10) == 0 ? 1 : 0);
        int v = random.nextInt(20) == 0 ? random.nextInt(300) - 20 : tamperedByte(up, k);
        both("spoil", up, i, k, v);
        if (i < count && random.nextInt(4) != 0) {
            int sum = 85;
            for (int b = 0; b < last; b++) {
                sum += model.way(up, i, b);
            }
            both("spoil", up, i, last, sum & 255);
        }
    }

    /** All FRAMES on their way as the receiver wants them, often without the first: lines overtake. */
    private void numberAnew() throws Exception {
        if (random.nextInt(2) == 0) {
            both("drop", true, 0);
        }
        for (int i = 0; i < model.way(true, -1, 0); i++) {
            int n = (model.receiver(0) + i) & 255;
            both("spoil", true, i, 1, n);
            both("spoil", true, i, 4, model.way(true, i, 0) + n + model.way(true, i, 2) + model.way(true, i, 3) + 85 & 255);
        }
    }

    private int tamperedByte(boolean up, int k) {
        if (up && k == 0) {
            return random.nextInt(4);
        }
        if (up && k == 2) {
            return random.nextInt(42);
        }
        if (!up && k == 0) {
            return random.nextInt(34);
        }
        if (k == 1) {
            int near = (up ? model.receiver(0) : model.sender(2)) + random.nextInt(6) - 1;
            return near & 255;
        }
        return random.nextInt(256);
    }

    private void change() throws Exception {
        int what = random.nextInt(13) - 1;
        int[] most = {14, 10, 22, 11, 30, 3, 8, 8, 20, 20, 8};
        int v = what >= 0 && what < most.length && random.nextInt(8) != 0
                ? random.nextInt(most[what]) : random.nextInt(210) - 3;
        both("set", what, v);
    }

    private void text() throws Exception {
        StringBuilder text = new StringBuilder();
        int lines = random.nextInt(6) == 0 ? 22 + random.nextInt(5) : random.nextInt(10);
        for (int i = 0; i < lines; i++) {
            text.append(WORDS[random.nextInt(WORDS.length)]);
            String word = text.toString();
            boolean wants = word.endsWith("send") || word.endsWith("past") || word.endsWith("set")
                    || word.endsWith("renumber") || word.endsWith("tick") || word.endsWith("drop");
            if (wants != (random.nextInt(60) == 0)) {
                int most = word.endsWith("tick") || word.endsWith("drop") ? 12 : 250;
                text.append(random.nextInt(3) == 0 ? "\n" : " ");
                text.append(random.nextInt(50) == 0 ? random.nextInt(20000) : 1 + random.nextInt(most));
            }
            text.append(random.nextInt(60) == 0 ? "!" : random.nextInt(4) == 0 ? " ; " : ";");
        }
        if (random.nextInt(4) == 0) {
            text.append("  ");
        }
        for (int at = 0; at < text.length(); at += 20) {
            int[] five = new int[5];
            for (int k = 0; k < 20; k++) {
                int c = at + k < text.length() ? text.charAt(at + k) : random.nextInt(256);
                five[k / 4] |= c << (24 - 8 * (k % 4));
            }
            both("feed", five[0], five[1], five[2], five[3], five[4]);
        }
        both("end", random.nextInt(8) == 0 ? random.nextInt(420) - 5 : text.length());
        both("plan");
        both("fault", random.nextInt(4) - 1);
        both("fault", 0);
        both("fault", 1);
    }

    private void oddQuestion() throws Exception {
        int a = random.nextInt(4) == 0 ? random.nextInt() : random.nextInt(320) - 4;
        int b = random.nextInt(4) == 0 ? random.nextInt() : random.nextInt(12) - 3;
        both("sender", a);
        both("receiver", a);
        both("look", b);
        both("look", a);
        both("alarm", a);
        both("told", b, a);
        both("told", b, random.nextInt(20));
        both("diary", a, b);
        both("ledger", a, b);
        both("delays", b);
        both("truth", b);
        both("zone", a);
        both("verdicts", b);
        both("way", random.nextBoolean(), a, b);
        both("drop", random.nextBoolean(), a + 50);
        both("spoil", random.nextBoolean(), b, a, a);
        both("tick", a < 1 || a > 60 ? a : -a);
        both("end", a);
        both("judge", random.nextInt(5), random.nextInt(5) - 1, random.nextInt(6) - 1,
                random.nextInt(12) - 1, random.nextInt(12) - 1);
        both("judge", a, b, a, b, a);
    }

    /** What most of the rest hangs on. */
    private void chiefQuestions() throws Exception {
        for (int what = 0; what <= 10; what++) {
            both("sender", what);
        }
        for (int what = 0; what <= 7; what++) {
            both("receiver", what);
        }
        for (int what = 12; what <= 19; what++) {
            both("look", what);
        }
        for (int what = 0; what <= 8; what++) {
            both("verdicts", what);
            both("delays", what);
            both("truth", what);
        }
        for (int what = 0; what < 4; what++) {
            both("told", what, -1);
        }
        both("way", true, -1, 0);
        both("way", false, -1, 0);
        both("alarm", -1);
        both("ledger", -1, 0);
        both("diary", -1, 0);
    }

    /** A question about something that most likely is there. */
    private void question() throws Exception {
        boolean up = random.nextBoolean();
        switch (random.nextInt(12)) {
            case 0: both("sender", 100 + 100 * random.nextInt(2) + among(model.sender(4))); break;
            case 1: both("receiver", 100 + among(Math.min(100, model.receiver(6)))); break;
            case 2: both("receiver", 200 + among(Math.min(100, model.receiver(7)))); break;
            case 3: both("diary", among(model.diary(-1, 0)), random.nextInt(3)); break;
            case 4: both("alarm", among(model.alarm(-1))); break;
            case 5: both("way", up, among(model.way(up, -1, 0)), random.nextInt(7) - 1); break;
            case 6: told(random.nextInt(4)); break;
            case 7: both("look", random.nextInt(20)); break;
            case 8: both("zone", random.nextInt(256)); break;
            default: both("ledger", among(model.ledger(-1, 0)), random.nextInt(7)); break;
        }
    }

    private void told(int what) throws Exception {
        both("told", what, among(model.told(what, -1)));
    }

    /** One of so many, or the first that is none of them. */
    private int among(int many) {
        return random.nextInt(many + 1);
    }

    private void both(String name, Object... args) throws Exception {
        if (made >= CALLS) {
            return;
        }
        made++;
        Method m = method(CommandLink.class, name);
        long got;
        try {
            got = number(m.invoke(link, args));
        } catch (java.lang.reflect.InvocationTargetException e) {
            throw new IllegalStateException(name + Arrays.toString(args) + " threw " + e.getCause());
        }
        long want = number(method(PlainModel.class, name).invoke(model, args));
        asked++;
        if (got != want) {
            throw new IllegalStateException(name + Arrays.toString(args) + " answered " + got + ", due is " + want);
        }
        if (!isQuestion(name)) {
            calls.add(name + Arrays.toString(args));
        }
    }

    private static boolean isQuestion(String name) {
        return List.of("sender", "receiver", "look", "way", "alarm", "told", "diary", "ledger", "delays", "truth",
                "verdicts", "zone", "judge", "fault").contains(name);
    }

    private static final java.util.Map<String, Method> METHODS = new java.util.HashMap<>();

    private static Method method(Class<?> c, String name) {
        return METHODS.computeIfAbsent(c.getName() + name, key -> {
            for (Method m : c.getMethods()) {
                if (m.getName().equals(name)) {
                    return m;
                }
            }
            throw new IllegalArgumentException(key);
        });
    }

    private static long number(Object answer) {
        return answer instanceof Boolean ? ((Boolean) answer ? 1 : 0) : ((Number) answer).longValue();
    }
}
