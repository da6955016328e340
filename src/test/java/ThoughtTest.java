/** Promises 31 (soon), 32 (ways), 33 (image). */
public final class ThoughtTest {
    private static final Due DUE = new Due("ThoughtTest");

    public static void main(String[] args) {
        soon();
        soonTakesAll();
        soonKnowsFates();
        soonIsWithoutLoss();
        soonAtItsEnd();
        nothingStays();
        waysOfANewLink();
        waysWhenLocked();
        waysWhenOutOfStep();
        waysWhenHeld();
        waysLookAtTheHundredthTick();
        waysAreWithoutLoss();
        waysTakeAll();
        image();
        imageOfTheReceiver();
        imageOfALockedReceiver();
        imageOfADirective();
        imageOfTheHeld();
        imageOfTheMarks();
        imageLeavesTheTape();
        DUE.end();
    }

    private static void soon() {
        CommandLink x = new CommandLink();
        DUE.is("31 OFF", -1, x.soon());
        x.start(0, 0);
        DUE.is("31 so already", 0, x.soon());
        x.past(7);
        DUE.is("31 PASSING is not asked", 0, x.soon());
        x.tick(1);
        x.send(1);
        DUE.is("31 goes at 2, comes at 5, is told at 8, known at 11", 10, x.soon());
        x.tick(10);
        DUE.is("31 it was so", 0, x.soon());
        CommandLink y = new CommandLink();
        y.start(1, 0);
        DUE.is("31 checks till 7", 7, y.soon());
        CommandLink z = new CommandLink();
        z.start(2, 0);
        DUE.is("31 an unlock", 7, z.soon());
    }

    private static void soonTakesAll() {
        CommandLink x = new CommandLink();
        x.set(1, 1);
        x.start(0, 0);
        for (int v = 0; v < 3; v++) {
            x.send(v);
        }
        DUE.is("31 with all TAKEN there is room", 11, x.soon());
        CommandLink none = new CommandLink();
        none.set(1, 0);
        none.start(0, 0);
        none.send(1);
        DUE.is("31 ROOM 0", -1, none.soon());
    }

    private static void soonKnowsFates() {
        CommandLink x = new CommandLink();
        x.start(0, 0);
        x.send(1);
        x.fate(true, 1);
        DUE.is("31 a FATE as ever", 19, x.soon());
        x.tick(19);
        DUE.is("31 it was so", 0, x.soon());
    }

    private static void soonIsWithoutLoss() {
        CommandLink x = new CommandLink();
        x.start(0, 0);
        x.send(1);
        x.set(8, 90);
        DUE.is("31 without LOSS", 7, x.soon());
        DUE.is("31 LOSS stands", 90, x.look(9));
        x.set(8, 0);
        x.set(9, 90);
        DUE.is("31 without SPOILT", 7, x.soon());
    }

    /** Each FATE costs a PATIENCE of 99 TICKS. */
    private static void soonAtItsEnd() {
        CommandLink x = new CommandLink();
        x.set(4, 99);
        x.set(3, 9);
        x.start(0, 0);
        x.send(1);
        for (int n = 1; n <= 3; n++) {
            x.fate(true, n);
        }
        DUE.is("31 goes at 1, 100, 199, 298", 307, x.soon());
        x.fate(true, 4);
        DUE.is("31 and at 397: beyond 400", -1, x.soon());
        x.set(4, 97);
        DUE.is("31 goes at 389, comes and is told at 392", 395, x.soon());
        x.set(7, 8);
        DUE.is("31 400 is the most", 400, x.soon());
        x.set(7, 9);
        DUE.is("31 and no more", -1, x.soon());
    }

    private static void nothingStays() {
        CommandLink x = new CommandLink();
        x.set(8, 20);
        x.start(0, 0);
        x.send(1);
        x.tick(2);
        x.fate(true, 1);
        int state = x.look(12);
        x.soon();
        x.ways();
        DUE.is("31 TICK", 2, x.look(0));
        DUE.is("31 STATE", state, x.look(12));
        DUE.is("31 NEXT", 0, x.receiver(0));
        DUE.is("31 diary", "0:6>1", Ask.diary(x));
        DUE.is("31 FATES", 2, x.fate(true, 2));
        DUE.is("31 alarms", 0, x.alarm(-1));
        DUE.is("31 LOSS", 20, x.look(9));
        DUE.is("33 no image", false, x.image(false));
    }

    private static void waysOfANewLink() {
        CommandLink x = new CommandLink();
        DUE.is("32 all STARTS", 15, x.ways());
        x.start(0, 0);
        DUE.is("32 behind STOP", 15, x.ways());
    }

    private static void waysWhenLocked() {
        CommandLink x = new CommandLink();
        x.renumber(100);
        x.start(0, 0);
        x.send(1);
        x.tick(8);
        x.renumber(0);
        DUE.is("32 LOCKED", 1, x.receiver(1));
        DUE.is("32 the unlock alone", 4, x.ways());
    }

    private static void waysWhenOutOfStep() {
        CommandLink x = new CommandLink();
        x.renumber(100);
        DUE.is("32 the set alone", 8, x.ways());
        x.set(10, 20);
        x.set(4, 1);
        DUE.is("32 no time for any but START 0", 0, x.ways());
        x.renumber(0);
        DUE.is("32 in step: START 0", 1, x.ways());
    }

    private static void waysWhenHeld() {
        CommandLink x = new CommandLink();
        x.set(5, 1);
        x.set(3, 1);
        x.set(10, 20);
        x.fate(true, 1);
        x.start(0, 0);
        x.send(1);
        x.tick(13);
        DUE.is("32 HELD", 1, x.sender(9));
        DUE.is("32 GO ON, or the set", 24, x.ways());
        x.set(10, 3);
        DUE.is("32 a REPORT too early is out of step in MACHINE 2", 8, x.ways());
    }

    /** A REPORT of another number comes at 101 alone: it does not count. */
    private static void waysLookAtTheHundredthTick() {
        CommandLink x = new CommandLink();
        x.set(10, 20);
        x.set(4, 99);
        x.set(7, 40);
        for (int n = 1; n <= 4; n++) {
            x.fate(false, n);
        }
        DUE.is("32 no REPORT within 100 TICKS: START 0 alone", 1, x.ways());
        x.renumber(9);
        DUE.is("32 out of step", 0, x.ways());
    }

    private static void image() {
        CommandLink x = new CommandLink();
        DUE.is("33 none yet", false, x.image(false));
        x.set(8, 10);
        x.set(0, 20);
        x.state(5);
        x.start(0, 0);
        x.send(1);
        x.send(2);
        x.past(3);
        x.fate(true, 3);
        x.tick(4);
        Ask.plan(x, "send 9; tick 3; take;");
        x.run(1);
        DUE.is("33 taken", true, x.image(true));
        String before = all(x);
        for (int again = 0; again < 2; again++) {
            x.run(24);
            Ask.plan(x, "stop;");
            x.set(0, 30);
            x.set(8, 0);
            x.tick(50);
            x.direct(0);
            x.start(3, 77);
            x.tick(30);
            x.fate(true, 5);
            DUE.is("33 gone back", true, x.image(false));
            DUE.is("33 all is as it was", before, all(x));
        }
        DUE.is("33 the FATE too", -1, x.fate(true, 3 - x.look(13) > 0 ? 3 - x.look(13) : 0));
        DUE.is("33 the plan goes on", 1, x.run(1));
        x.image(true);
        x.tick(5);
        x.image(false);
        DUE.is("33 taken anew", 7, x.look(0));
    }

    private static void waysAreWithoutLoss() {
        CommandLink x = new CommandLink();
        x.renumber(9);
        x.set(8, 90);
        DUE.is("32 without LOSS", 8, x.ways());
        x.set(8, 0);
        x.set(9, 90);
        DUE.is("32 without SPOILT", 8, x.ways());
        DUE.is("32 SPOILT stands", 90, x.look(10));
    }

    /** GO ON resends what a full receiver would not take in, were it not TAKEN from. */
    private static void waysTakeAll() {
        CommandLink x = new CommandLink();
        x.set(1, 1);
        x.set(3, 1);
        x.set(5, 1);
        x.set(4, 99);
        x.set(10, 20);
        x.set(7, 40);
        x.start(0, 0);
        x.send(1);
        x.tick(60);
        DUE.is("32 one lies there", 1, x.receiver(5));
        DUE.is("32 none is SENT", 0, x.sender(4));
        x.set(4, 1);
        x.send(2);
        x.tick(2);
        DUE.is("32 HELD", 1, x.sender(9));
        x.drop(true, 0);
        x.set(4, 99);
        for (int n = 1; n <= 3; n++) {
            x.drop(false, 0);
        }
        DUE.is("32 GO ON, and the set", 24, x.ways());
    }

    /** A number far outside comes to the receiver; UP is 1. */
    private static void lock(CommandLink x) {
        x.past(1);
        x.tick(1);
        int last = x.way(true, -1, 0) - 1;
        Ask.forge(x, true, last, 0, 0);
        Ask.forge(x, true, last, 1, (x.receiver(0) + 100) & 255);
        x.tick(1);
    }

    private static void imageOfTheReceiver() {
        CommandLink x = waiting();
        x.image(true);
        DUE.is("33 it WAITS", "WAIT 1R", Ask.text(x, 2));
        String before = all(x);
        x.take();
        x.past(4001);
        x.tick(30);
        lock(x);
        DUE.is("33 LOCKED meanwhile", "LOCKED 2", Ask.text(x, 2));
        x.image(false);
        DUE.is("33 the receiver is as it was", before, all(x));
    }

    private static CommandLink waiting() {
        CommandLink x = new CommandLink();
        x.set(1, 1);
        x.set(6, 1);
        x.start(0, 0);
        x.past(4000);
        x.send(5000);
        x.send(6000);
        x.tick(4);
        return x;
    }

    private static void imageOfALockedReceiver() {
        CommandLink x = waiting();
        lock(x);
        x.tick(9);
        DUE.is("33 LOCKED", "LOCKED 1R", Ask.text(x, 2));
        x.image(true);
        String before = all(x);
        x.direct(0);
        x.start(2, 0);
        x.tick(20);
        DUE.is("33 OPEN meanwhile", 0, x.receiver(1));
        x.image(false);
        DUE.is("33 LOCKED as it was", before, all(x));
    }

    private static CommandLink directing() {
        CommandLink x = new CommandLink();
        x.set(4, 3);
        x.set(5, 1);
        x.set(6, 40);
        x.set(10, 20);
        x.start(3, 9);
        x.past(1);
        x.past(2);
        x.tick(1);
        return x;
    }

    private static void imageOfADirective() {
        CommandLink x = directing();
        x.image(true);
        String before = all(x);
        x.tick(40);
        x.direct(0);
        x.start(0, 0);
        x.image(false);
        DUE.is("33 a DIRECTIVE as it was", before, all(x));
        x.tick(2);
        DUE.is("33 and its mark: it goes", "2 0 1 9 97", Ask.bytes(x, true, 2));
    }

    private static void imageOfTheHeld() {
        CommandLink x = directing();
        x.tick(42);
        x.image(true);
        String before = all(x);
        DUE.is("33 HELD", 5, x.sender(9));
        x.start(0, 0);
        x.send(1);
        x.send(2);
        x.tick(60);
        x.direct(1);
        x.image(false);
        DUE.is("33 HELD as it was", before, all(x));
    }

    private static void imageOfTheMarks() {
        CommandLink y = Ask.withReport(3, 4, 0);
        y.tick(1);
        y.image(true);
        String before = all(y);
        y.tick(10);
        y.image(false);
        DUE.is("33 the marks as they were", before, all(y));
        y.tick(1);
        DUE.is("33 the second goes then", 1, y.sender(5));
        y.direct(0);
        y.image(false);
        DUE.is("33 SENT is in the ledger still", 1, y.ledger(2, 6));
        y.direct(0);
        DUE.is("33 and gone by its ALARM", 3, y.ledger(2, 6));
    }

    private static void imageLeavesTheTape() {
        CommandLink x = new CommandLink();
        Ask.feed(x, "start;");
        x.image(true);
        Ask.plan(x, "foo;");
        Ask.feed(x, "take;on;");
        x.image(false);
        DUE.is("33 the fault stays", 1, x.fault(0));
        DUE.is("33 its place too", 0, x.fault(1));
        DUE.is("33 the TAPE stays", 2, x.plan());
    }

    /** Some hundred questions: a link may be asked them more than once. */
    private static String all(CommandLink x) {
        StringBuilder s = new StringBuilder();
        for (int what = 0; what < 20; what++) {
            s.append(x.look(what)).append(' ');
        }
        for (int what = 0; what < 11; what++) {
            s.append(x.sender(what)).append(' ');
        }
        for (int what = 0; what < 8; what++) {
            s.append(x.receiver(what)).append(' ');
        }
        for (int what = 0; what < 9; what++) {
            s.append(x.verdicts(what)).append(' ');
        }
        int lines = x.ledger(-1, 0);
        for (int i = 0; i < lines; i++) {
            s.append(Ask.ledger(x, i)).append(' ');
        }
        for (int i = 0; i < 3; i++) {
            s.append(Ask.bytes(x, true, i)).append(x.way(true, i, -1)).append(Ask.bytes(x, false, i));
            s.append(x.way(false, i, -1)).append(x.sender(100 + i)).append(x.sender(200 + i));
            s.append(x.receiver(100 + i)).append(x.receiver(200 + i)).append(x.alarm(i));
        }
        return s.append(Ask.diary(x)).append(x.alarm(-1)).append(Ask.text(x, 0)).toString();
    }
}
