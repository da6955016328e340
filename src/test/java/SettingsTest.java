/** Promises 1 (a new object), 2 (state), 3 (set), 34 (look). */
public final class SettingsTest {
    private static final Due DUE = new Due("SettingsTest");
    private static final int[] AT_FIRST = {10, 3, 3, 3, 12, 0, 3, 3, 0, 0, 4};
    private static final int[] LEAST = {2, 0, 1, 1, 1, 0, 1, 1, 0, 0, 1};
    private static final int[] MOST = {200, 8, 20, 9, 99, 1, 40, 40, 90, 90, 20};

    public static void main(String[] args) {
        newObject();
        state();
        bounds();
        lossAndSpoiltTogether();
        settingsDoNotReachBack();
        look();
        DUE.end();
    }

    private static void newObject() {
        CommandLink x = new CommandLink();
        DUE.is("1 NONE", -1, CommandLink.NONE);
        for (int what = 0; what < AT_FIRST.length; what++) {
            DUE.is("1 setting " + what, AT_FIRST[what], x.look(what + 1));
        }
        int[] sender = {6, 0, 0, 0, 0, 0, 0, 0, 0, 0, -1};
        for (int what = 0; what < sender.length; what++) {
            DUE.is("1 sender " + what, sender[what], x.sender(what));
        }
        for (int what = 0; what < 8; what++) {
            DUE.is("1 receiver " + what, 0, x.receiver(what));
        }
        for (int what = 12; what < 20; what++) {
            DUE.is("1 look " + what, 0, x.look(what));
        }
        DUE.is("1 TICK", 0, x.look(0));
        DUE.is("1 report", "", Ask.text(x, 0));
        DUE.is("1 sender", "OFF 0/3 #0", Ask.text(x, 1));
        DUE.is("1 receiver", "OPEN 0", Ask.text(x, 2));
        DUE.is("1 alarm", "", Ask.text(x, 3));
        DUE.is("1 no image", false, x.image(false));
        DUE.is("1 nothing on its way up", 0, x.way(true, -1, 0));
        DUE.is("1 nothing on its way down", 0, x.way(false, -1, 0));
        DUE.is("1 the tape is empty", false, x.end(1));
        DUE.is("1 no fault", 0, x.fault(0));
        DUE.is("1 no place", -1, x.fault(1));
    }

    private static void state() {
        CommandLink x = new CommandLink();
        DUE.is("2 at first", 0, x.state(Integer.MIN_VALUE));
        DUE.is("2 what it was", Integer.MIN_VALUE, x.state(-7));
        DUE.is("2 look", -7, x.look(12));
        x.past(1);
        x.tick(1);
        DUE.is("2 one DRAW for a FRAME", -7 * 1664525 + 1013904223, x.look(12));
        x.tick(3);
        int once = -7 * 1664525 + 1013904223;
        DUE.is("2 one DRAW for a REPORT", once * 1664525 + 1013904223, x.look(12));
    }

    private static void bounds() {
        for (int what = 0; what < AT_FIRST.length; what++) {
            CommandLink x = new CommandLink();
            DUE.is("3 below " + what, false, x.set(what, LEAST[what] - 1));
            DUE.is("3 above " + what, false, x.set(what, MOST[what] + (what == 0 ? 2 : 1)));
            DUE.is("3 lowest int " + what, false, x.set(what, Integer.MIN_VALUE));
            DUE.is("3 highest int " + what, false, x.set(what, Integer.MAX_VALUE));
            DUE.is("3 unchanged " + what, AT_FIRST[what], x.look(what + 1));
            DUE.is("3 least " + what, true, x.set(what, LEAST[what]));
            DUE.is("3 least stands " + what, LEAST[what], x.look(what + 1));
            DUE.is("3 most " + what, true, x.set(what, MOST[what]));
            DUE.is("3 most stands " + what, MOST[what], x.look(what + 1));
        }
        CommandLink x = new CommandLink();
        DUE.is("3 odd W", false, x.set(0, 11));
        DUE.is("3 another what", false, x.set(11, 1));
        DUE.is("3 what below", false, x.set(-1, 1));
        DUE.is("3 lowest what", false, x.set(Integer.MIN_VALUE, 1));
    }

    private static void lossAndSpoiltTogether() {
        CommandLink x = new CommandLink();
        DUE.is("3 LOSS 60", true, x.set(8, 60));
        DUE.is("3 SPOILT 31", false, x.set(9, 31));
        DUE.is("3 SPOILT 30", true, x.set(9, 30));
        DUE.is("3 LOSS 61", false, x.set(8, 61));
        DUE.is("3 LOSS stays", 60, x.look(9));
        DUE.is("3 LOSS 59", true, x.set(8, 59));
        DUE.is("3 SPOILT 31 then", true, x.set(9, 31));
    }

    private static void settingsDoNotReachBack() {
        CommandLink x = new CommandLink();
        x.start(0, 0);
        x.send(1);
        x.tick(1);
        x.set(4, 50);
        x.set(6, 10);
        DUE.is("3 TIMER runs on as it is", 12, x.sender(8));
        DUE.is("3 what is on its way goes on", 4, x.way(true, 0, -1));
        x.tick(3);
        x.set(1, 0);
        DUE.is("3 what lies there stays", 1, x.receiver(5));
        DUE.is("3 and is taken", 1, x.take());
    }

    private static void look() {
        CommandLink x = new CommandLink();
        x.set(8, 0);
        x.start(0, 0);
        x.send(1);
        x.send(2);
        x.fate(true, 2);
        x.tick(2);
        DUE.is("34 TICK", 2, x.look(0));
        DUE.is("34 FRAMES that went, a lost one too", 2, x.look(13));
        DUE.is("34 FRAMES lost", 1, x.look(15));
        x.past(5);
        x.tick(1);
        x.spoil(true, 1, 4, 0);
        x.tick(3);
        DUE.is("34 thrown away: not good", 1, x.look(16));
        DUE.is("34 not hurt by hand", 1, x.look(15));
        DUE.is("34 REPORTS that went", 1, x.look(14));
        x.tick(1);
        DUE.is("34 REPORTS that came good", 1, x.look(17));
        x.tick(1);
        x.spoil(false, 0, 2, 0);
        x.tick(3);
        DUE.is("34 a bad one does not count", 1, x.look(17));
        Ask.plan(x, "take; stop; take;");
        DUE.is("34 lines of the plan", 3, x.look(18));
        DUE.is("34 none run", 0, x.look(19));
        x.run(2);
        DUE.is("34 two run", 2, x.look(19));
        DUE.is("34 another what", -100000, x.look(20));
        DUE.is("34 what below", -100000, x.look(-1));
        DUE.is("34 lowest what", -100000, x.look(Integer.MIN_VALUE));
        CommandLink y = new CommandLink();
        y.set(0, 4);
        y.renumber(100);
        y.start(0, 0);
        y.send(1);
        y.tick(4);
        DUE.is("34 thrown away: outside", 1, y.look(16));
    }
}
