/** Promises 26 (ledger), 27 (delays), 30 (truth). */
public final class LedgerTest {
    private static final Due DUE = new Due("LedgerTest");

    public static void main(String[] args) {
        lines();
        lostWentToo();
        staysThatCommand();
        otherKindsHaveNoLine();
        overtaken();
        takenInTogether();
        takenInBehindAtOneTick();
        takenInAgainAtOneTick();
        overtakenByTheLastOfThree();
        takenInAtTheLastTick();
        goneByStart();
        takenInTwice();
        vanished();
        full();
        truth();
        DUE.end();
    }

    private static void lines() {
        CommandLink x = new CommandLink();
        x.start(0, 0);
        x.tick(2);
        x.send(9999);
        x.send(1);
        DUE.is("26 in LINE", "9999 2 0 -1 0 -1 0", Ask.ledger(x, 0));
        x.tick(1);
        DUE.is("26 SENT", "9999 2 1 3 0 -1 1", Ask.ledger(x, 0));
        DUE.is("26 the second in LINE", "1 2 0 -1 0 -1 0", Ask.ledger(x, 1));
        x.tick(3);
        DUE.is("26 taken in", "9999 2 1 3 1 6 1", Ask.ledger(x, 0));
        x.tick(5);
        DUE.is("26 gone by the REPORT", "9999 2 1 3 1 6 2", Ask.ledger(x, 0));
        DUE.is("26 how many", 2, x.ledger(-1, 9));
        DUE.is("26 no such line", -1, x.ledger(2, 0));
        DUE.is("26 i below", -1, x.ledger(-2, 0));
        DUE.is("26 another what", -1, x.ledger(0, 7));
        DUE.is("26 what below", -1, x.ledger(0, -1));
        DUE.is("27 taken in", 2, x.delays(0));
        DUE.is("27 the longest wait", 5, x.delays(1));
        DUE.is("27 all waits", 9, x.delays(2));
        DUE.is("27 another what", -1, x.delays(7));
        DUE.is("27 what below", -1, x.delays(-1));
        x.past(4);
        x.tick(9);
        DUE.is("26 past the order has no line", 2, x.ledger(-1, 0));
        x.send(3);
        x.send(4);
        x.tick(1);
        x.direct(0);
        DUE.is("26 SENT, gone by an ALARM", 3, x.ledger(2, 6));
        DUE.is("26 LINE, gone by an ALARM", 3, x.ledger(3, 6));
    }

    private static void lostWentToo() {
        CommandLink x = new CommandLink();
        x.start(0, 0);
        x.send(5);
        x.fate(true, 1);
        x.tick(1);
        DUE.is("26 a lost one went", "5 0 1 1 0 -1 1", Ask.ledger(x, 0));
        x.tick(12);
        DUE.is("26 went twice, first then", "5 0 2 1 0 -1 1", Ask.ledger(x, 0));
        DUE.is("27 went more than once", 1, x.delays(6));
        DUE.is("27 none taken in", -1, x.delays(1));
        DUE.is("27 no waits", 0, x.delays(2));
        x.tick(3);
        DUE.is("26 taken in", "5 0 2 1 1 16 1", Ask.ledger(x, 0));
        DUE.is("27 its wait", 16, x.delays(1));
    }

    private static void staysThatCommand() {
        CommandLink x = new CommandLink();
        x.start(0, 0);
        x.send(5);
        x.tick(1);
        Ask.forge(x, true, 0, 3, 77);
        x.tick(3);
        DUE.is("26 the receiver has another command", 77, x.receiver(100));
        DUE.is("26 the FRAME stays one of its own", "5 0 1 1 1 4 1", Ask.ledger(x, 0));
    }

    private static void otherKindsHaveNoLine() {
        CommandLink x = new CommandLink();
        x.start(0, 0);
        x.past(9);
        x.tick(1);
        Ask.forge(x, true, 0, 0, 0);
        x.send(5);
        x.tick(1);
        Ask.forge(x, true, 1, 0, 1);
        x.tick(4);
        DUE.is("26 one past the order was taken in in order", 9, x.receiver(100));
        DUE.is("26 one in order came past it", 5, x.receiver(200));
        DUE.is("26 which is not taken in in order", 0, x.ledger(0, 4));
        DUE.is("27 so none was", 0, x.delays(0));
    }

    private static void overtaken() {
        CommandLink x = new CommandLink();
        x.set(4, 2);
        x.set(3, 9);
        x.set(6, 5);
        x.set(10, 20);
        x.start(0, 0);
        x.send(1);
        x.send(2);
        x.tick(4);
        DUE.is("27 the first went again", 2, x.ledger(0, 2));
        x.drop(true, 0);
        Ask.forge(x, true, 0, 1, 0);
        Ask.forge(x, true, 1, 1, 1);
        x.tick(3);
        DUE.is("27 the second is taken in", 7, x.ledger(1, 5));
        DUE.is("27 none overtaken yet", 0, x.delays(5));
        x.tick(2);
        DUE.is("27 then the first", 9, x.ledger(0, 5));
        DUE.is("27 taken in behind a later line", 1, x.delays(5));
    }

    private static void takenInTogether() {
        CommandLink x = new CommandLink();
        x.start(0, 0);
        x.send(1);
        x.send(2);
        x.tick(1);
        x.set(6, 1);
        x.tick(3);
        DUE.is("26 the first at 4", 4, x.ledger(0, 5));
        DUE.is("26 the second waited behind it", 4, x.ledger(1, 5));
        DUE.is("27 none is behind the other", 0, x.delays(5));
    }

    /** Both come at one TICK, the later line first: by the order of coming, not by TICKS. */
    private static void takenInBehindAtOneTick() {
        CommandLink x = fourOnTheirWay();
        x.drop(true, 0);
        Ask.forge(x, true, 0, 1, 0);
        Ask.forge(x, true, 1, 1, 1);
        x.image(true);
        x.tick(7);
        DUE.is("26 the later line at 22", 22, x.ledger(1, 5));
        DUE.is("26 the earlier line at 22, too", 22, x.ledger(0, 5));
        DUE.is("27 the earlier line is behind the later one", 1, x.delays(5));
        x.image(false);
        DUE.is("27 the image has none of it", 0, x.delays(5));
        x.tick(7);
        DUE.is("27 again behind it", 1, x.delays(5));
        x.image(true);
        x.send(1);
        x.send(2);
        x.tick(20);
        DUE.is("27 those in order are not", 1, x.delays(5));
        x.image(false);
        DUE.is("27 kept by the image", 1, x.delays(5));
    }

    /** Only the first time counts: the first line comes again, behind the second, as number 2. */
    private static void takenInAgainAtOneTick() {
        CommandLink x = fourOnTheirWay();
        Ask.forge(x, true, 2, 1, 2);
        x.tick(7);
        DUE.is("26 the first line twice", "100 0 2 1 2 21 1", Ask.ledger(x, 0));
        DUE.is("26 the second line between", "200 0 2 2 1 22 1", Ask.ledger(x, 1));
        DUE.is("27 none was first taken in behind", 0, x.delays(5));
    }

    /** Taken in third, first, second: the first two lines are behind the third, each counts. */
    private static void overtakenByTheLastOfThree() {
        CommandLink x = new CommandLink();
        x.set(6, 20);
        x.start(0, 0);
        x.send(1);
        x.send(2);
        x.send(3);
        x.tick(3);
        x.set(6, 1);
        x.tick(14);
        x.drop(true, 0);
        x.drop(true, 0);
        DUE.is("20 the third, then all three again", 4, x.way(true, -1, 0));
        for (int i = 0; i < 3; i++) {
            Ask.forge(x, true, i, 1, i);
        }
        x.tick(6);
        DUE.is("19 the third is the first taken in", 3, x.receiver(100));
        DUE.is("19 then the first", 1, x.receiver(101));
        DUE.is("19 then the second", 2, x.receiver(102));
        DUE.is("27 two are behind the third", 2, x.delays(5));
    }

    /** The first command, the second, the first, the second again; the last three come at 22. */
    private static CommandLink fourOnTheirWay() {
        CommandLink x = new CommandLink();
        x.set(6, 20);
        x.start(0, 0);
        x.send(100);
        x.send(200);
        x.tick(2);
        x.set(6, 1);
        x.tick(13);
        DUE.is("20 four on their way", 4, x.way(true, -1, 0));
        return x;
    }

    private static void takenInAtTheLastTick() {
        CommandLink x = new CommandLink();
        x.start(0, 0);
        for (int i = 0; i < 166; i++) {
            x.tick(60);
        }
        x.tick(35);
        x.send(1);
        x.tick(4);
        DUE.is("26 taken in at 9999", 9999, x.ledger(0, 5));
        DUE.is("27 behind no other", 0, x.delays(5));
    }

    private static void goneByStart() {
        CommandLink x = new CommandLink();
        x.set(2, 1);
        x.set(3, 1);
        x.set(4, 3);
        x.set(5, 1);
        x.set(6, 40);
        x.start(0, 0);
        x.send(1);
        x.send(2);
        x.tick(4);
        DUE.is("26 HELD: SENT stays", 1, x.ledger(0, 6));
        DUE.is("26 HELD: LINE stays", 0, x.ledger(1, 6));
        x.start(1, 0);
        DUE.is("26 SENT, gone by a START", 3, x.ledger(0, 6));
        DUE.is("26 LINE, gone by a START", 3, x.ledger(1, 6));
        DUE.is("30 both are nowhere", 2, x.truth(3));
    }

    private static void takenInTwice() {
        CommandLink x = new CommandLink();
        x.set(4, 2);
        x.set(3, 9);
        x.set(10, 20);
        x.start(0, 0);
        x.send(1);
        x.tick(3);
        DUE.is("27 two on their way", 2, x.way(true, -1, 0));
        Ask.forge(x, true, 1, 1, 1);
        x.tick(3);
        DUE.is("26 taken in twice", 2, x.ledger(0, 4));
        DUE.is("26 the first time", 4, x.ledger(0, 5));
        DUE.is("27 more than once", 1, x.delays(3));
        DUE.is("27 counted once", 1, x.delays(0));
        DUE.is("27 its wait is the first", 4, x.delays(2));
    }

    private static void vanished() {
        CommandLink x = Ask.withReport(2, 0, 1);
        x.tick(1);
        DUE.is("27 gone by a REPORT, never taken in", 1, x.delays(4));
        CommandLink y = Ask.withReport(2, 1, 1);
        y.tick(1);
        DUE.is("27 gone by an ALARM is no such", 0, y.delays(4));
    }

    private static void full() {
        CommandLink x = new CommandLink();
        x.start(0, 0);
        for (int i = 0; i < 104; i++) {
            x.send(i);
            x.tick(3);
            x.take();
        }
        DUE.is("26 a hundred lines", 100, x.ledger(-1, 0));
        DUE.is("26 the last", 99, x.ledger(99, 0));
        DUE.is("26 no more", -1, x.ledger(100, 0));
        DUE.is("30 but sent in all", 104, x.truth(4));
        x.tick(20);
        x.take();
        x.take();
        DUE.is("19 and all were taken in", 104, x.receiver(6));
        DUE.is("27 a hundred in the ledger", 100, x.delays(0));
        x.send(7);
        x.send(8);
        x.tick(1);
        x.direct(0);
        DUE.is("30 gone by an ALARM", 106, x.truth(3));
    }

    private static void truth() {
        CommandLink x = new CommandLink();
        x.set(10, 20);
        x.start(3, 254);
        x.tick(4);
        x.direct(0);
        x.start(0, 0);
        for (int v = 0; v < 5; v++) {
            x.send(v);
        }
        x.tick(5);
        DUE.is("30 SENT that lie nearer than NEXT", 2, x.truth(0));
        DUE.is("30 NEXT behind SEEN", 2, x.truth(1));
        DUE.is("30 NUMBER behind NEXT", 1, x.truth(2));
        DUE.is("30 nowhere any more", 0, x.truth(3));
        DUE.is("30 in all", 5, x.truth(4));
        DUE.is("30 another what", -1, x.truth(5));
        DUE.is("30 what below", -1, x.truth(-1));
        x.direct(0);
        DUE.is("30 none SENT", 0, x.truth(0));
        DUE.is("30 all nowhere", 5, x.truth(3));
    }
}
