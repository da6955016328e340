/** Promises 9 (take), 19 (receiver), 28 (zone), and how each kind of FRAME is met. */
public final class ReceiverTest {
    private static final Due DUE = new Due("ReceiverTest");

    public static void main(String[] args) {
        take();
        noRoom();
        ahead();
        behind();
        outside();
        unlock();
        setWhenLocked();
        setWhenOpen();
        notGood();
        goodEdges();
        countGoesRound();
        reports();
        zones();
        asking();
        DUE.end();
    }

    /** A link on which each FRAME comes a TICK behind that at which it went. */
    private static CommandLink quick() {
        CommandLink x = new CommandLink();
        x.set(6, 1);
        x.set(10, 20);
        x.set(4, 99);
        x.set(2, 20);
        x.start(0, 0);
        return x;
    }

    /** A FRAME past the order, made into any other, comes. */
    private static void comes(CommandLink x, int kind, int n, int high, int low) {
        x.past(0);
        x.tick(1);
        int last = x.way(true, -1, 0) - 1;
        x.spoil(true, last, 0, kind);
        x.spoil(true, last, 1, n);
        x.spoil(true, last, 2, high);
        x.spoil(true, last, 3, low);
        x.spoil(true, last, 4, (kind + n + high + low + 85) & 255);
        x.tick(1);
    }

    private static void take() {
        CommandLink x = quick();
        DUE.is("9 none lies there", -1, x.take());
        x.send(7);
        x.send(0);
        x.tick(3);
        DUE.is("9 two lie there", 2, x.receiver(5));
        DUE.is("9 the first first", 7, x.take());
        DUE.is("9 then the second", 0, x.take());
        DUE.is("9 none is left", -1, x.take());
        DUE.is("9 ORDER keeps them", 2, x.receiver(6));
    }

    private static void noRoom() {
        CommandLink x = quick();
        x.set(1, 1);
        comes(x, 0, 0, 0, 5);
        DUE.is("19 taken in", 1, x.receiver(0));
        comes(x, 0, 1, 0, 6);
        DUE.is("19 no room: NEXT stays", 1, x.receiver(0));
        DUE.is("19 no room: WAITS", 1, x.receiver(2));
        DUE.is("19 no room: RESEND", 1, x.receiver(3));
        DUE.is("19 no room: text", "WAIT 1R", Ask.text(x, 2));
        x.set(1, 8);
        comes(x, 0, 1, 0, 6);
        DUE.is("19 it WAITS though there is room", 1, x.receiver(0));
        DUE.is("9 TAKEN", 5, x.take());
        DUE.is("9 WAITS ends", 0, x.receiver(2));
        DUE.is("9 RESEND stays", 1, x.receiver(3));
        DUE.is("9 text", "OPEN 1R", Ask.text(x, 2));
        comes(x, 0, 1, 0, 6);
        DUE.is("19 taken in then", 2, x.receiver(0));
        DUE.is("19 RESEND 0", 0, x.receiver(3));
        CommandLink none = quick();
        none.set(1, 0);
        comes(none, 0, 0, 0, 5);
        DUE.is("19 ROOM 0 takes nothing", 0, none.receiver(6));
        DUE.is("9 nothing TAKEN", -1, none.take());
        DUE.is("9 and WAITS stays", 1, none.receiver(2));
    }

    private static void ahead() {
        CommandLink x = quick();
        comes(x, 0, 4, 0, 5);
        DUE.is("19 ahead: RESEND", 1, x.receiver(3));
        DUE.is("19 ahead: not LOCKED", 0, x.receiver(1));
        DUE.is("19 ahead: thrown away", 0, x.receiver(6));
        x.set(1, 0);
        comes(x, 2, 0, 0, 0);
        comes(x, 0, 0, 0, 5);
        comes(x, 2, 0, 1, 0);
        DUE.is("19 a set ends WAITS", 0, x.receiver(2));
        comes(x, 0, 0, 0, 5);
        DUE.is("19 WAITS and RESEND", "WAIT 0R", Ask.text(x, 2));
    }

    private static void behind() {
        CommandLink x = quick();
        comes(x, 0, 251, 0, 5);
        DUE.is("19 behind: nothing", "OPEN 0", Ask.text(x, 2));
        DUE.is("19 behind: thrown away", 1, x.look(16));
    }

    private static void outside() {
        CommandLink x = quick();
        comes(x, 0, 5, 0, 5);
        DUE.is("19 outside: LOCKED", "LOCKED 0", Ask.text(x, 2));
        comes(x, 0, 0, 0, 5);
        DUE.is("19 LOCKED takes nothing", 0, x.receiver(6));
        DUE.is("19 LOCKED throws away", 2, x.look(16));
        comes(x, 1, 0, 0, 8);
        DUE.is("19 but what is past the order", 1, x.receiver(7));
        CommandLink y = quick();
        comes(y, 0, 250, 0, 5);
        DUE.is("19 outside from behind", 1, y.receiver(1));
    }

    private static void unlock() {
        CommandLink x = quick();
        x.set(1, 0);
        comes(x, 0, 0, 0, 5);
        comes(x, 0, 100, 0, 5);
        DUE.is("19 LOCKED stands ahead", "LOCKED 0R", Ask.text(x, 2));
        comes(x, 2, 9, 0, 77);
        DUE.is("19 unlock, N and LOW are not asked", "OPEN 0", Ask.text(x, 2));
        DUE.is("19 unlock counts", 1, x.receiver(4));
    }

    private static void setWhenLocked() {
        CommandLink x = quick();
        comes(x, 0, 100, 0, 5);
        comes(x, 2, 0, 1, 50);
        DUE.is("19 a set when LOCKED", "LOCKED 0", Ask.text(x, 2));
        DUE.is("19 is counted", 1, x.receiver(4));
    }

    private static void setWhenOpen() {
        CommandLink x = quick();
        comes(x, 0, 3, 0, 5);
        comes(x, 2, 9, 1, 250);
        DUE.is("19 set", "OPEN 250", Ask.text(x, 2));
        comes(x, 0, 254, 0, 5);
        comes(x, 0, 250, 39, 15);
        DUE.is("19 taken in from there", 9999, x.receiver(100));
    }

    private static void notGood() {
        int[][] frames = {{3, 0, 0, 5}, {255, 0, 0, 5}, {0, 0, 39, 16}, {0, 0, 255, 255}, {1, 0, 40, 0}, {2, 0, 2, 0}};
        for (int[] f : frames) {
            CommandLink x = quick();
            comes(x, f[0], f[1], f[2], f[3]);
            DUE.is("19 not good: NEXT", 0, x.receiver(0));
            DUE.is("19 not good: COUNT", 0, x.receiver(4));
            DUE.is("19 not good: PAST", 0, x.receiver(7));
            DUE.is("34 not good: thrown away", 1, x.look(16));
        }
        CommandLink x = quick();
        x.send(5);
        x.tick(1);
        x.spoil(true, 0, 4, x.way(true, 0, 4) ^ 1);
        x.tick(1);
        DUE.is("19 a CHECK that is not so", 0, x.receiver(6));
    }

    private static void goodEdges() {
        CommandLink x = quick();
        comes(x, 1, 200, 39, 15);
        DUE.is("19 past the order, N is not asked", 9999, x.receiver(200));
        comes(x, 2, 0, 1, 255);
        DUE.is("19 set 255", 255, x.receiver(0));
        comes(x, 0, 255, 0, 1);
        DUE.is("19 NEXT goes round", 0, x.receiver(0));
    }

    private static void countGoesRound() {
        CommandLink x = quick();
        for (int i = 1; i <= 5; i++) {
            comes(x, 1, 0, 0, i);
            DUE.is("19 COUNT", i % 4, x.receiver(4));
        }
        DUE.is("19 PAST in all", 5, x.receiver(7));
        DUE.is("19 the third", 3, x.receiver(202));
    }

    /** The REPORT that goes at the next TICK. */
    private static String nextReport(CommandLink x) {
        x.set(10, 1);
        x.tick(1);
        x.set(10, 20);
        return Ask.bytes(x, false, x.way(false, -1, 0) - 1);
    }

    private static void reports() {
        CommandLink x = quick();
        x.set(1, 0);
        x.set(7, 40);
        DUE.is("20 nothing to report", "0 0 85", nextReport(x));
        comes(x, 0, 1, 0, 5);
        DUE.is("20 RESEND", "4 0 89", nextReport(x));
        comes(x, 0, 0, 0, 5);
        DUE.is("20 WAITS and RESEND", "6 0 91", nextReport(x));
        comes(x, 2, 0, 1, 255);
        DUE.is("20 COUNT 1", "8 255 92", nextReport(x));
        comes(x, 0, 100, 0, 5);
        DUE.is("20 LOCKED", "9 255 93", nextReport(x));
        comes(x, 1, 0, 0, 5);
        comes(x, 1, 0, 0, 5);
        DUE.is("20 COUNT 3", "25 255 109", nextReport(x));
    }

    private static void zones() {
        CommandLink x = quick();
        int[][] want = {{0, 0}, {1, 1}, {4, 1}, {5, 3}, {128, 3}, {250, 3}, {251, 2}, {255, 2}};
        for (int[] w : want) {
            DUE.is("28 zone " + w[0], w[1], x.zone(w[0]));
        }
        DUE.is("28 below", -1, x.zone(-1));
        DUE.is("28 above", -1, x.zone(256));
        x.set(0, 2);
        DUE.is("28 W 2 has none ahead", 3, x.zone(1));
        DUE.is("28 W 2 has one behind", 2, x.zone(255));
        DUE.is("28 W 2 has no more", 3, x.zone(254));
        x.set(0, 200);
        DUE.is("28 W 200 ahead", 1, x.zone(99));
        DUE.is("28 W 200 outside", 3, x.zone(100));
        DUE.is("28 W 200 outside still", 3, x.zone(155));
        DUE.is("28 W 200 behind", 2, x.zone(156));
        comes(x, 2, 0, 1, 200);
        DUE.is("28 behind NEXT", 0, x.zone(200));
        DUE.is("28 round the end", 1, x.zone(43));
        DUE.is("28 outside then", 3, x.zone(44));
    }

    private static void asking() {
        CommandLink x = quick();
        DUE.is("19 another what", -2, x.receiver(8));
        DUE.is("19 what below", -2, x.receiver(-1));
        DUE.is("19 no ORDER yet", -2, x.receiver(100));
        DUE.is("19 no PAST yet", -2, x.receiver(200));
        DUE.is("19 lowest", -2, x.receiver(Integer.MIN_VALUE));
        DUE.is("19 highest", -2, x.receiver(Integer.MAX_VALUE));
    }
}
