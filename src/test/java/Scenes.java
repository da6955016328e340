import java.util.LinkedHashMap;
import java.util.Map;
import java.util.function.Supplier;

/**
 * Links in each state of MACHINE, each with something of everything: lines in the ledger, what
 * lies at the receiver, FRAMES on their way, FATES, a plan begun, a TAPE, an image of another time.
 */
final class Scenes {
    private Scenes() {
    }

    /** All scenes by name; a call that is refused must leave each as it is. */
    static Map<String, Supplier<CommandLink>> all() {
        Map<String, Supplier<CommandLink>> all = new LinkedHashMap<>();
        all.put("new", CommandLink::new);
        for (int m = 1; m <= 6; m++) {
            int machine = m;
            all.put("MACHINE " + m, () -> in(machine));
        }
        all.put("unlock", Scenes::unlocking);
        for (int m = 1; m <= 5; m++) {
            int machine = m;
            all.put("HELD " + m, () -> held(machine));
        }
        return all;
    }

    /** MACHINE 1 .. 6; in 5 it is a set. */
    static CommandLink in(int machine) {
        return furnished(bare(machine, 12));
    }

    static CommandLink unlocking() {
        CommandLink x = used();
        x.start(2, 0);
        return furnished(x);
    }

    /** MACHINE 6, HELD 1 .. 5. */
    static CommandLink held(int machine) {
        CommandLink x = bare(machine, 3);
        x.set(3, 1);
        x.set(5, 1);
        x.tick(machine < 4 ? 2 : 3);
        return furnished(x);
    }

    private static CommandLink bare(int machine, int patience) {
        CommandLink x = used();
        x.set(4, patience);
        switch (machine) {
            case 1: judge(x, 0); break;
            case 2: judge(x, 4); break;
            case 3: judge(x, 6); break;
            case 4: x.start(1, 0); break;
            case 5: x.start(3, 9); break;
            default: break;
        }
        return x;
    }

    /** MACHINE 6 at TICK 6, behind two commands in order and one past it. */
    private static CommandLink used() {
        CommandLink x = new CommandLink();
        x.set(6, 1);
        x.set(7, 1);
        x.set(10, 1);
        x.set(2, 2);
        x.start(0, 0);
        x.send(11);
        x.send(9999);
        x.past(13);
        x.tick(6);
        x.direct(0);
        x.drop(false, 0);
        x.set(6, 40);
        x.set(10, 20);
        return x;
    }

    /** Two SENT and one in LINE, when a REPORT with these flags comes, at TICK 9. */
    private static void judge(CommandLink x, int flags) {
        x.start(0, 0);
        x.send(21);
        x.send(22);
        x.send(23);
        x.tick(1);
        x.set(10, 1);
        x.tick(1);
        x.set(10, 20);
        Ask.forgeReport(x, 0, flags, x.sender(2));
        x.tick(1);
    }

    private static CommandLink furnished(CommandLink x) {
        x.past(61);
        x.fate(true, 3);
        x.fate(false, 2);
        x.image(true);
        x.past(62);
        x.take();
        x.state(4711);
        Ask.plan(x, "take; send 7; past 8; tick 2; drop 1; lose; on; tick 3; stop;");
        x.run(1);
        Ask.feed(x, "past 1; foo");
        return x;
    }
}
