/** Promises 10 (tick), 11 (drop), 12 (spoil), 20 (way), 29 (fate), and the draws. */
public final class ChannelTest {
    private static final Due DUE = new Due("ChannelTest");

    public static void main(String[] args) {
        tick();
        lastTick();
        orderInATick();
        drop();
        spoil();
        way();
        waitsBehindAnEarlierOne();
        fate();
        fateNeedsNoDraw();
        draws();
        longWay();
        DUE.end();
    }

    private static void tick() {
        CommandLink x = new CommandLink();
        DUE.is("10 none", -1, x.tick(0));
        DUE.is("10 below", -1, x.tick(-1));
        DUE.is("10 above", -1, x.tick(61));
        DUE.is("10 lowest", -1, x.tick(Integer.MIN_VALUE));
        DUE.is("10 highest", -1, x.tick(Integer.MAX_VALUE));
        DUE.is("10 nothing is done", 0, x.look(0));
        DUE.is("10 one", 1, x.tick(1));
        DUE.is("10 sixty", 61, x.tick(60));
    }

    private static void lastTick() {
        CommandLink x = new CommandLink();
        x.start(0, 0);
        for (int i = 0; i < 166; i++) {
            x.tick(60);
        }
        DUE.is("10 above 9999", -1, x.tick(40));
        DUE.is("10 nothing is done", 9960, x.look(0));
        DUE.is("10 9999", 9999, x.tick(39));
        DUE.is("10 no more", -1, x.tick(1));
        DUE.is("17 a plan neither", 0, Ask.run(x, "tick 1;"));
        x.send(5);
        DUE.is("31 SOON goes beyond 9999", 8, x.soon());
    }

    /** A FRAME comes ahead of the REPORT of its TICK; the TIMER runs ahead of the TURN. */
    private static void orderInATick() {
        CommandLink x = new CommandLink();
        x.set(6, 3);
        x.start(0, 0);
        x.send(5);
        x.tick(3);
        DUE.is("10 not yet", 0, x.receiver(0));
        x.tick(1);
        DUE.is("10 the REPORT knows the FRAME of its TICK", "0 1 86", Ask.bytes(x, false, 0));
        CommandLink y = new CommandLink();
        y.set(4, 1);
        y.set(6, 40);
        y.start(0, 0);
        y.send(5);
        y.tick(1);
        DUE.is("10 TIMER is set behind its run", 1, y.sender(8));
        y.tick(1);
        DUE.is("10 MARKED by the TIMER, it goes in the same TICK", 2, y.look(13));
    }

    private static void drop() {
        CommandLink x = new CommandLink();
        DUE.is("11 none", false, x.drop(true, 0));
        x.past(1);
        x.past(2);
        x.past(3);
        x.tick(3);
        DUE.is("11 below", false, x.drop(true, -1));
        DUE.is("11 above", false, x.drop(true, 3));
        DUE.is("11 the second", true, x.drop(true, 1));
        DUE.is("11 two are left", 2, x.way(true, -1, 0));
        DUE.is("11 the first stays", 1, x.way(true, 0, 3));
        DUE.is("11 the third moves up", "1 0 0 3 89", Ask.bytes(x, true, 1));
        DUE.is("11 with its TICK", 6, x.way(true, 1, -1));
        DUE.is("11 no REPORT yet", false, x.drop(false, 0));
        x.tick(1);
        DUE.is("11 a REPORT", true, x.drop(false, 0));
        x.tick(3);
        DUE.is("11 it never comes", "", Ask.text(x, 0));
        DUE.is("11 not lost by draws", 0, x.look(15));
    }

    private static void spoil() {
        CommandLink x = new CommandLink();
        x.past(1);
        x.tick(4);
        x.past(2);
        x.tick(1);
        DUE.is("12 i below", false, x.spoil(true, -1, 0, 0));
        DUE.is("12 i above", false, x.spoil(true, 1, 0, 0));
        DUE.is("12 k below", false, x.spoil(true, 0, -1, 0));
        DUE.is("12 k above", false, x.spoil(true, 0, 5, 0));
        DUE.is("12 v below", false, x.spoil(true, 0, 0, -1));
        DUE.is("12 v above", false, x.spoil(true, 0, 0, 256));
        DUE.is("12 the last byte", true, x.spoil(true, 0, 4, 255));
        DUE.is("12 it stands", "1 0 0 2 255", Ask.bytes(x, true, 0));
        DUE.is("12 k above in a REPORT", false, x.spoil(false, 0, 3, 0));
        DUE.is("12 a REPORT", true, x.spoil(false, 0, 2, 0));
        x.tick(2);
        DUE.is("22 a REPORT that is not good", "?", Ask.text(x, 0));
        x.tick(1);
        DUE.is("12 the FRAME is thrown away", 1, x.receiver(7));
    }

    private static void way() {
        CommandLink x = new CommandLink();
        x.set(7, 40);
        x.start(3, 200);
        x.tick(4);
        DUE.is("20 none upward", 0, x.way(true, -1, 99));
        DUE.is("20 one downward", 1, x.way(false, -1, -1));
        DUE.is("20 its TICK", 44, x.way(false, 0, -1));
        DUE.is("20 FLAGS", 8, x.way(false, 0, 0));
        DUE.is("20 N", 200, x.way(false, 0, 1));
        DUE.is("20 CHECK", (8 + 200 + 85) & 255, x.way(false, 0, 2));
        DUE.is("20 no such byte", -1, x.way(false, 0, 3));
        DUE.is("20 k below", -1, x.way(false, 0, -2));
        DUE.is("20 no such REPORT", -1, x.way(false, 1, 0));
        DUE.is("20 no such TICK", -1, x.way(false, 1, -1));
        DUE.is("20 i below", -1, x.way(false, -2, 0));
    }

    private static void waitsBehindAnEarlierOne() {
        CommandLink x = new CommandLink();
        x.set(6, 10);
        x.past(1);
        x.past(2);
        x.tick(1);
        x.set(6, 1);
        x.tick(5);
        DUE.is("10 the second waits behind the first", 0, x.receiver(7));
        x.tick(4);
        DUE.is("10 still", 0, x.receiver(7));
        x.tick(1);
        DUE.is("10 both come", 2, x.receiver(7));
        DUE.is("10 in order", 1, x.receiver(200));
        CommandLink y = new CommandLink();
        y.set(6, 10);
        y.past(1);
        y.past(2);
        y.tick(1);
        y.set(6, 1);
        y.tick(4);
        y.drop(true, 0);
        y.tick(1);
        DUE.is("10 its TICK was: it comes as nothing is ahead", 1, y.receiver(7));
    }

    private static void fate() {
        CommandLink x = new CommandLink();
        DUE.is("29 below", -1, x.fate(true, 0));
        DUE.is("29 above", -1, x.fate(true, 100));
        DUE.is("29 the second", 1, x.fate(true, 2));
        DUE.is("29 told already", -1, x.fate(true, 2));
        DUE.is("29 the fourth", 2, x.fate(true, 4));
        DUE.is("29 REPORTS are told by themselves", 1, x.fate(false, 1));
        for (int v = 1; v <= 4; v++) {
            x.past(v);
        }
        x.tick(1);
        DUE.is("29 told already, from now on", -1, x.fate(true, 1));
        x.tick(1);
        DUE.is("29 it is gone once it came", 2, x.fate(true, 3));
        x.tick(5);
        DUE.is("29 the first and the third come", 2, x.receiver(7));
        DUE.is("29 the third", 3, x.receiver(201));
        DUE.is("29 lost are counted", 2, x.look(15));
        DUE.is("29 the REPORT is lost", 0, x.look(17));
        DUE.is("29 but went", 1, x.look(14));
        CommandLink y = new CommandLink();
        for (int n = 1; n <= 8; n++) {
            DUE.is("29 up to eight", n, y.fate(false, 91 + n));
        }
        DUE.is("29 no ninth", -1, y.fate(false, 1));
        DUE.is("29 eight of the others too", 1, y.fate(true, 1));
        y.tick(4);
        DUE.is("29 one that has no FATE goes by all eight", 1, y.way(false, -1, 0));
    }

    private static void fateNeedsNoDraw() {
        CommandLink x = new CommandLink();
        x.state(77);
        x.fate(true, 1);
        x.past(1);
        x.tick(1);
        DUE.is("29 without a DRAW", 77, x.look(12));
    }

    /** The draws, done once more here by the document's own formula. */
    private static void draws() {
        CommandLink x = new CommandLink();
        x.set(8, 30);
        x.set(9, 40);
        x.set(10, 20);
        x.state(12345);
        int state = 12345;
        int lost = 0;
        int spoilt = 0;
        for (int i = 0; i < 15; i++) {
            x.past(7);
            x.tick(1);
            state = state * 1664525 + 1013904223;
            int drawn = (state >>> 8) % 100;
            if (drawn < 30) {
                lost++;
            } else if (drawn < 70) {
                spoilt++;
                state = state * 1664525 + 1013904223;
                int k = (state >>> 8) % 5;
                int[] want = {1, 0, 0, 7, 93};
                want[k]++;
                int last = x.way(true, -1, 0) - 1;
                DUE.is("29 the byte by a DRAW", want[k], x.way(true, last, k));
            }
            DUE.is("29 STATE", state, x.look(12));
            DUE.is("29 lost or spoilt", lost + spoilt, x.look(15));
            boolean came = x.way(true, x.way(true, -1, 0) - 1, -1) == x.look(0) + 3;
            DUE.is("29 a lost one is not on its way", drawn >= 30, came);
        }
    }

    /** The most that can be on their way: one a TICK, forty TICKS long. */
    private static void longWay() {
        CommandLink x = new CommandLink();
        x.set(6, 40);
        x.set(7, 40);
        x.set(10, 1);
        for (int i = 0; i < 60; i++) {
            x.past(i);
            x.tick(1);
        }
        DUE.is("20 forty FRAMES", 40, x.way(true, -1, 0));
        DUE.is("20 forty REPORTS", 40, x.way(false, -1, 0));
        DUE.is("20 the last", 59, x.way(true, 39, 3));
        DUE.is("20 and its TICK", 100, x.way(true, 39, -1));
        x.set(6, 1);
        x.past(60);
        x.tick(1);
        DUE.is("20 one comes, one goes", 40, x.way(true, -1, 0));
        x.image(true);
        x.tick(39);
        DUE.is("20 all came", 61, x.receiver(7));
        x.image(false);
        DUE.is("11 the last of forty", true, x.drop(true, 39));
        DUE.is("11 one amid them", true, x.drop(true, 30));
        DUE.is("11 those behind move up", 52, x.way(true, 30, 3));
        DUE.is("11 and no others", 50, x.way(true, 29, 3));
        x.tick(39);
        DUE.is("11 all others came", 59, x.receiver(7));
    }
}
