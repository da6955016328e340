/** Promises 4 (send), 5 (past), 6 (start), 7 (direct), 8 (renumber), 18 (sender). */
public final class SenderTest {
    private static final Due DUE = new Due("SenderTest");

    public static void main(String[] args) {
        send();
        past();
        start();
        startUnlockAndSet();
        stop();
        goOnWithSent();
        goOnChecking();
        goOnDirecting();
        startWhenHeld();
        renumber();
        turn();
        width();
        numbersGoRound();
        asking();
        DUE.end();
    }

    private static void send() {
        CommandLink x = new CommandLink();
        DUE.is("4 in MACHINE 6", -1, x.send(1));
        x.start(1, 0);
        DUE.is("4 in MACHINE 4", -1, x.send(1));
        x.direct(0);
        x.start(2, 0);
        DUE.is("4 in MACHINE 5", -1, x.send(1));
        x.direct(0);
        x.start(0, 0);
        DUE.is("4 below", -1, x.send(-1));
        DUE.is("4 above", -1, x.send(10000));
        DUE.is("4 least", 1, x.send(0));
        DUE.is("4 most", 2, x.send(9999));
        for (int i = 3; i <= 8; i++) {
            DUE.is("4 the LINE fills", i, x.send(i));
        }
        DUE.is("4 the LINE is full", -1, x.send(9));
        DUE.is("4 it has eight", 8, x.sender(3));
        x.tick(1);
        DUE.is("4 room again", 8, x.send(9));
    }

    private static void past() {
        CommandLink x = new CommandLink();
        DUE.is("5 below", -1, x.past(-1));
        DUE.is("5 above", -1, x.past(10000));
        DUE.is("5 in MACHINE 6", 1, x.past(9999));
        DUE.is("5 second", 2, x.past(0));
        DUE.is("5 third", 3, x.past(300));
        DUE.is("5 fourth", 4, x.past(4));
        DUE.is("5 full", -1, x.past(5));
        x.tick(1);
        DUE.is("5 the first went", 3, x.sender(6));
        DUE.is("5 as a FRAME of KIND 1", "1 0 39 15 140", Ask.bytes(x, true, 0));
        x.tick(2);
        DUE.is("5 the third", "1 0 1 44 131", Ask.bytes(x, true, 2));
        x.start(2, 0);
        x.tick(1);
        DUE.is("5 ahead of a DIRECTIVE", "1 0 0 4 90", Ask.bytes(x, true, 2));
        x.tick(1);
        DUE.is("5 the DIRECTIVE then", "2 0 0 0 87", Ask.bytes(x, true, 2));
    }

    private static void start() {
        CommandLink x = new CommandLink();
        DUE.is("6 how below", false, x.start(-1, 0));
        DUE.is("6 how above", false, x.start(4, 0));
        DUE.is("6 START 0, its number is not asked", true, x.start(0, -5));
        DUE.is("6 MACHINE 1", 1, x.sender(0));
        DUE.is("6 TRIES 1", 1, x.sender(7));
        DUE.is("6 TIMER 0", 0, x.sender(8));
        DUE.is("6 not twice", false, x.start(0, 0));
        x.direct(0);
        x.renumber(7);
        DUE.is("6 START 1", true, x.start(1, 999));
        DUE.is("6 MACHINE 4", 4, x.sender(0));
        DUE.is("6 TIMER PATIENCE", 12, x.sender(8));
        DUE.is("6 TRIES 1 again", 1, x.sender(7));
        DUE.is("6 no DIRECTIVE", -1, x.sender(10));
        DUE.is("6 NUMBER stays", 7, x.sender(1));
    }

    private static void startUnlockAndSet() {
        CommandLink x = new CommandLink();
        x.renumber(9);
        DUE.is("6 START 2", true, x.start(2, -1));
        DUE.is("6 MACHINE 5", 5, x.sender(0));
        DUE.is("6 unlock", 0, x.sender(10));
        DUE.is("6 TIMER with it", 12, x.sender(8));
        DUE.is("6 TRIES with it", 1, x.sender(7));
        x.direct(0);
        DUE.is("6 STOP empties it", -1, x.sender(10));
        DUE.is("6 set below", false, x.start(3, -1));
        DUE.is("6 set above", false, x.start(3, 256));
        DUE.is("6 START 3", true, x.start(3, 255));
        DUE.is("6 set", 1, x.sender(10));
        DUE.is("6 NUMBER", 255, x.sender(1));
        DUE.is("6 SEEN", 255, x.sender(2));
        x.tick(1);
        DUE.is("6 the FRAME", "2 0 1 255 87", Ask.bytes(x, true, 0));
        x.tick(1);
        DUE.is("6 it goes once", 1, x.way(true, -1, 0));
        x.tick(2);
        DUE.is("6 the receiver is set", 255, x.receiver(0));
        x.tick(3);
        DUE.is("6 MACHINE 1 by the REPORT", 1, x.sender(0));
        DUE.is("6 no DIRECTIVE then", -1, x.sender(10));
        DUE.is("6 TIMER 0 then", 0, x.sender(8));
    }

    private static void stop() {
        CommandLink x = new CommandLink();
        DUE.is("7 nothing to STOP", false, x.direct(0));
        DUE.is("7 no ALARM by it", 0, x.alarm(-1));
        x.start(0, 0);
        x.send(1);
        x.send(2);
        x.past(3);
        x.tick(2);
        DUE.is("7 STOP", true, x.direct(0));
        DUE.is("7 MACHINE 6", 6, x.sender(0));
        DUE.is("7 LINE", 0, x.sender(3));
        DUE.is("7 SENT", 0, x.sender(4));
        DUE.is("7 TIMER", 0, x.sender(8));
        DUE.is("7 ALARM 6", 6, x.alarm(0));
        DUE.is("7 another what", false, x.direct(2));
        DUE.is("7 what below", false, x.direct(-1));
        DUE.is("7 not HELD", false, x.direct(1));
    }

    /** Two SENT in MACHINE 1, suspended by the TIMER as nothing comes back. */
    private static CommandLink suspended() {
        CommandLink x = new CommandLink();
        x.set(5, 1);
        x.set(3, 1);
        x.set(4, 3);
        x.set(6, 40);
        x.set(10, 20);
        x.start(0, 0);
        x.send(1);
        x.send(2);
        x.tick(5);
        return x;
    }

    private static void goOnWithSent() {
        CommandLink x = suspended();
        DUE.is("7 suspended", "OFF 2/3 #2 HELD ACTIVE", Ask.text(x, 1));
        DUE.is("7 MACHINE 6", 6, x.sender(0));
        DUE.is("7 HELD", 1, x.sender(9));
        DUE.is("7 no ALARM", 0, x.alarm(-1));
        DUE.is("7 no TIMER", 0, x.sender(8));
        DUE.is("7 no send when HELD", -1, x.send(1));
        DUE.is("7 GO ON", true, x.direct(1));
        DUE.is("7 MACHINE 2", 2, x.sender(0));
        DUE.is("7 HELD no more", 0, x.sender(9));
        DUE.is("7 both MARKED", 2, x.sender(5));
        DUE.is("7 TRIES 1", 1, x.sender(7));
        DUE.is("7 TIMER", 3, x.sender(8));
        DUE.is("7 the diary has both changes", "0:6>1 5:1>6 5:6>1 5:1>2", Ask.diary(x));
        DUE.is("7 GO ON once", false, x.direct(1));
        x.tick(3);
        DUE.is("7 suspended in 2", 2, x.sender(9));
        x.direct(1);
        DUE.is("7 one change then", "0:6>1 5:1>6 5:6>1 5:1>2 8:2>6 8:6>2", Ask.diary(x));
        x.tick(3);
        DUE.is("7 STOP when HELD", true, x.direct(0));
        DUE.is("7 HELD ends", 0, x.sender(9));
        DUE.is("7 SENT ends", 0, x.sender(4));
        DUE.is("7 no change of MACHINE by it", 7, x.diary(-1, 0));
    }

    private static void goOnChecking() {
        CommandLink x = new CommandLink();
        x.set(5, 1);
        x.set(4, 2);
        x.set(10, 20);
        x.start(1, 0);
        x.tick(2);
        DUE.is("7 HELD in 4", "OFF 0/3 #0 HELD CHECKS", Ask.text(x, 1));
        DUE.is("7 GO ON in 4", true, x.direct(1));
        DUE.is("7 MACHINE 4", 4, x.sender(0));
        DUE.is("7 its TIMER", 2, x.sender(8));
    }

    private static void goOnDirecting() {
        CommandLink x = new CommandLink();
        x.set(5, 1);
        x.set(4, 2);
        x.set(3, 2);
        x.set(6, 40);
        x.set(10, 20);
        x.start(3, 5);
        x.tick(1);
        DUE.is("7 one went", 1, x.way(true, -1, 0));
        x.tick(1);
        DUE.is("7 the second try goes at once", 2, x.way(true, -1, 0));
        DUE.is("7 TRIES 2", 2, x.sender(7));
        x.tick(2);
        DUE.is("7 HELD in 5", 5, x.sender(9));
        DUE.is("7 DIRECTIVE stays", 1, x.sender(10));
        DUE.is("7 GO ON in 5", true, x.direct(1));
        DUE.is("7 TRIES 1 in 5", 1, x.sender(7));
        x.tick(1);
        DUE.is("7 the same FRAME once more", "2 0 1 5 93", Ask.bytes(x, true, 2));
    }

    private static void startWhenHeld() {
        CommandLink x = suspended();
        DUE.is("6 START when HELD", true, x.start(0, 0));
        DUE.is("6 HELD 0", 0, x.sender(9));
        DUE.is("6 SENT empty", 0, x.sender(4));
        DUE.is("6 SEEN is NUMBER", 2, x.sender(2));
        DUE.is("6 no ALARM", 0, x.alarm(-1));
        DUE.is("6 gone by START", 3, x.ledger(0, 6));
    }

    private static void renumber() {
        CommandLink x = new CommandLink();
        DUE.is("8 below", false, x.renumber(-1));
        DUE.is("8 above", false, x.renumber(256));
        DUE.is("8 most", true, x.renumber(255));
        DUE.is("8 NUMBER", 255, x.sender(1));
        DUE.is("8 SEEN", 255, x.sender(2));
        DUE.is("8 least", true, x.renumber(0));
        x.start(0, 0);
        DUE.is("8 not in MACHINE 1", false, x.renumber(5));
        CommandLink y = suspended();
        DUE.is("8 not when HELD", false, y.renumber(5));
        DUE.is("8 nothing changed", 2, y.sender(1));
    }

    private static void turn() {
        CommandLink x = Ask.withReport(3, 4, 0);
        x.send(200);
        x.tick(1);
        DUE.is("18 MACHINE 2", 2, x.sender(0));
        DUE.is("18 the first of the MARKED goes at once", 2, x.sender(5));
        DUE.is("18 it is the first", "0 0 0 100 185", Ask.bytes(x, true, 3));
        x.past(9);
        x.tick(1);
        DUE.is("18 PASSING goes ahead", "1 0 0 9 95", Ask.bytes(x, true, 4));
        DUE.is("18 the MARKED wait", 2, x.sender(5));
        x.tick(2);
        DUE.is("18 all went", 0, x.sender(5));
        DUE.is("18 LINE waited", 1, x.sender(3));
        x.tick(1);
        DUE.is("18 MACHINE 2 sends new ones", 4, x.sender(4));
        DUE.is("18 TIMER at a new FRAME", 99, x.sender(8));
    }

    private static void width() {
        CommandLink x = new CommandLink();
        x.set(2, 2);
        x.set(6, 40);
        x.start(0, 0);
        x.send(1);
        x.send(2);
        x.send(3);
        x.tick(5);
        DUE.is("18 K at the most", 2, x.sender(4));
        DUE.is("18 the third waits", 1, x.sender(3));
        x.set(2, 3);
        x.tick(1);
        DUE.is("18 a wider K", 3, x.sender(4));
    }

    private static void numbersGoRound() {
        CommandLink x = new CommandLink();
        x.start(3, 254);
        x.tick(7);
        for (int v = 0; v < 4; v++) {
            x.send(v);
        }
        x.tick(1);
        x.tick(3);
        DUE.is("18 NUMBER goes round", 1, x.sender(1));
        DUE.is("18 N of the first", 254, x.sender(200));
        DUE.is("18 N of the third", 0, x.sender(202));
        x.tick(30);
        DUE.is("18 NEXT goes round", 1, x.receiver(0));
        DUE.is("18 room for three alone", 3, x.receiver(5));
    }

    private static void asking() {
        CommandLink x = new CommandLink();
        x.set(2, 20);
        x.set(6, 40);
        x.set(4, 99);
        x.start(0, 0);
        for (int v = 0; v < 20; v++) {
            x.send(1000 + v);
            x.tick(1);
        }
        DUE.is("18 twenty SENT", 20, x.sender(4));
        DUE.is("18 the last command", 1019, x.sender(119));
        DUE.is("18 the last N", 19, x.sender(219));
        DUE.is("18 no such command", -2, x.sender(120));
        DUE.is("18 no such N", -2, x.sender(220));
        DUE.is("18 below a hundred", -2, x.sender(99));
        DUE.is("18 another what", -2, x.sender(11));
        DUE.is("18 what below", -2, x.sender(-1));
        DUE.is("18 lowest what", -2, x.sender(Integer.MIN_VALUE));
        DUE.is("18 highest what", -2, x.sender(Integer.MAX_VALUE));
        x.send(5);
        x.tick(1);
        DUE.is("18 K is kept", 20, x.sender(4));
        DUE.is("18 LINE keeps it", 1, x.sender(3));
        x.set(10, 1);
        x.set(7, 1);
        x.tick(1);
        x.set(10, 20);
        Ask.forgeReport(x, x.way(false, -1, 0) - 1, 4, 0);
        x.tick(1);
        DUE.is("18 all twenty MARKED, one went", 19, x.sender(5));
    }
}
