/** The edges that the document names in promises 28 (zone), 29 (fate), 30 (truth). */
public final class EdgesOf28To30Test {
    private static final Due DUE = new Due("EdgesOf28To30Test", 28, 30);
    private static final Refused REFUSED = new Refused(DUE);
    private static final int MIN = Integer.MIN_VALUE;
    private static final int MAX = Integer.MAX_VALUE;

    public static void main(String[] args) {
        everyNumber();
        numbersThatAreNone();
        zoneWhateverTheState();
        fatesThatCanBe();
        fatesThatCantBe();
        fateOfTheNext();
        fateOfThe99th();
        eightFates();
        toldAlready();
        fateIsGone();
        fateFromThenOn();
        fateOfEachKindOfFrame();
        fateWithoutADraw();
        truthsThatAreNone();
        truthGoesRound();
        truthOfSentNearer();
        truthOfAllThatWereSent();
        DUE.end();
    }

    /** A receiver whose NEXT is this. */
    private static CommandLink nextIs(int next, int window) {
        CommandLink x = Ask.quick();
        x.set(0, window);
        Ask.comes(x, 2, 0, 1, next);
        return x;
    }

    /** "0 far 0, 1 ahead (far 1 .. W by 2, less 1), 2 behind (256 less W by 2 .. 255), 3 outside". */
    private static void everyNumber() {
        for (int window : new int[] {2, 4, 10, 198, 200}) {
            for (int next : new int[] {0, 1, 4, 100, 251, 254, 255}) {
                CommandLink x = nextIs(next, window);
                for (int n = 0; n <= 255; n++) {
                    int far = (n - next + 256) % 256;
                    int want = far == 0 ? 0 : far <= window / 2 - 1 ? 1 : far >= 256 - window / 2 ? 2 : 3;
                    DUE.is("28 W " + window + ", NEXT " + next + ", " + n, want, x.zone(n));
                }
            }
        }
    }

    /** "NONE if there is no such number." */
    private static void numbersThatAreNone() {
        for (int n : new int[] {-1, 256, -2, 257, -256, 512, MIN, MAX}) {
            REFUSED.none("28 " + n, x -> x.zone(n));
        }
    }

    /** "as the receiver stands": NEXT and W alone are asked. */
    private static void zoneWhateverTheState() {
        CommandLink x = nextIs(7, 10);
        x.set(1, 0);
        Ask.comes(x, 0, 7, 0, 5);
        Ask.comes(x, 0, 100, 0, 5);
        DUE.is("28 LOCKED", 1, x.receiver(1));
        DUE.is("28 it WAITS, too", 1, x.receiver(2));
        DUE.is("28 far 0", 0, x.zone(7));
        DUE.is("28 far 4", 1, x.zone(11));
        DUE.is("28 far 5", 3, x.zone(12));
        DUE.is("28 far 251", 2, x.zone(2));
        DUE.is("28 far 250", 3, x.zone(1));
    }

    /** "the n-th (1 .. 99) FRAME (up true), REPORT from now on". */
    private static void fatesThatCanBe() {
        for (boolean up : new boolean[] {true, false}) {
            for (int n : new int[] {1, 2, 98, 99}) {
                DUE.is("29 the " + n + "th", 1, new CommandLink().fate(up, n));
            }
        }
    }

    /** "NONE if n can't be". */
    private static void fatesThatCantBe() {
        for (boolean up : new boolean[] {true, false}) {
            for (int n : new int[] {0, 100, -1, 101, MIN, MAX}) {
                REFUSED.none("29 " + n + " can't be", x -> x.fate(up, n));
            }
        }
    }

    private static void fateOfTheNext() {
        CommandLink x = new CommandLink();
        x.fate(true, 1);
        x.past(1);
        x.past(2);
        x.tick(1);
        DUE.is("29 the next is lost", 0, x.way(true, -1, 0));
        DUE.is("29 it went, too", 1, x.look(13));
        DUE.is("29 lost, it is counted", 1, x.look(15));
        x.tick(1);
        DUE.is("29 that behind it is not", 2, x.way(true, 0, 3));
        DUE.is("29 one is lost", 1, x.look(15));
        CommandLink y = new CommandLink();
        y.fate(false, 1);
        y.tick(4);
        DUE.is("29 the next REPORT is lost", 0, y.way(false, -1, 0));
        DUE.is("29 it went", 1, y.look(14));
        DUE.is("29 it is no FRAME", 0, y.look(15));
        y.tick(4);
        DUE.is("29 that behind it is not lost", 1, y.way(false, -1, 0));
    }

    private static void fateOfThe99th() {
        CommandLink x = new CommandLink();
        x.set(10, 1);
        x.set(7, 1);
        x.fate(false, 99);
        x.tick(60);
        x.tick(38);
        DUE.is("29 the 98th is on its way", 1, x.way(false, -1, 0));
        x.tick(1);
        DUE.is("29 the 99th is lost", 0, x.way(false, -1, 0));
        x.tick(1);
        DUE.is("29 the 100th is not", 1, x.way(false, -1, 0));
        DUE.is("29 98 came", 98, x.look(17));
        CommandLink y = new CommandLink();
        y.set(6, 1);
        y.fate(true, 99);
        for (int v = 0; v < 100; v += 4) {
            for (int i = 0; i < 4; i++) {
                y.past(v + i);
            }
            y.tick(4);
        }
        y.tick(1);
        DUE.is("29 of a hundred FRAMES one is lost", 99, y.receiver(7));
        DUE.is("29 it is the 99th", 99, y.receiver(298));
        DUE.is("29 not the 98th", 97, y.receiver(297));
    }

    private static CommandLink withFates(boolean up, int many) {
        CommandLink x = new CommandLink();
        for (int n = 1; n <= many; n++) {
            DUE.is("29 how many are told", n, x.fate(up, 90 + n));
        }
        return x;
    }

    /** "there are eight of these". */
    private static void eightFates() {
        for (boolean up : new boolean[] {true, false}) {
            CommandLink x = withFates(up, 7);
            DUE.is("29 the eighth can be", 8, x.fate(up, 1));
            for (int n : new int[] {1, 2, 99}) {
                REFUSED.noneIn("29 the ninth can't be", () -> withFates(up, 8), y -> y.fate(up, n));
            }
            DUE.is("29 eight of the others can be", 1, withFates(up, 8).fate(!up, 1));
        }
        CommandLink both = withFates(true, 8);
        for (int n = 1; n <= 8; n++) {
            DUE.is("29 eight of each", n, both.fate(false, n));
        }
        DUE.is("29 no ninth REPORT", -1, both.fate(false, 9));
        DUE.is("29 no ninth FRAME", -1, both.fate(true, 9));
    }

    /** "or it is told already". */
    private static void toldAlready() {
        for (boolean up : new boolean[] {true, false}) {
            for (int n : new int[] {91, 92, 93}) {
                REFUSED.noneIn("29 " + n + " is told already", () -> withFates(up, 3), x -> x.fate(up, n));
            }
            DUE.is("29 94 is not", 4, withFates(up, 3).fate(up, 94));
            DUE.is("29 90 is not", 4, withFates(up, 3).fate(up, 90));
            DUE.is("29 91 of the others is not", 1, withFates(up, 3).fate(!up, 91));
        }
        CommandLink x = new CommandLink();
        x.fate(true, 3);
        x.past(1);
        x.tick(1);
        DUE.is("29 one went: the third is the second now", -1, x.fate(true, 2));
        DUE.is("29 the third from now on is another", 2, x.fate(true, 3));
    }

    /** "(counted, too; the FATE is gone)". */
    private static void fateIsGone() {
        CommandLink x = new CommandLink();
        for (int n = 1; n <= 8; n++) {
            x.fate(true, n);
        }
        for (int v = 0; v < 4; v++) {
            x.past(v);
        }
        x.tick(1);
        DUE.is("29 one is gone: another can be told", 8, x.fate(true, 99));
        DUE.is("29 and no other", -1, x.fate(true, 98));
        x.tick(3);
        DUE.is("29 four are lost", 4, x.look(15));
        DUE.is("29 five are told: a sixth", 6, x.fate(true, 50));
        DUE.is("29 the next is told still", -1, x.fate(true, 1));
        DUE.is("29 the fifth from now on is not", 7, x.fate(true, 5));
    }

    private static void fateFromThenOn() {
        CommandLink x = new CommandLink();
        x.past(1);
        x.past(2);
        x.tick(2);
        x.fate(true, 2);
        x.past(3);
        x.past(4);
        x.past(5);
        x.tick(3);
        x.tick(3);
        DUE.is("29 the second from then on is lost", 4, x.receiver(7));
        DUE.is("29 the first is not", 3, x.receiver(202));
        DUE.is("29 nor is the third", 5, x.receiver(203));
        CommandLink y = new CommandLink();
        y.fate(true, 4);
        y.fate(true, 2);
        y.fate(true, 3);
        for (int v = 1; v <= 4; v++) {
            y.past(v);
        }
        y.tick(4);
        DUE.is("29 told in any order: the first alone comes", 1, y.receiver(7));
        DUE.is("29 three are lost", 3, y.look(15));
    }

    private static void fateOfEachKindOfFrame() {
        CommandLink order = new CommandLink();
        order.fate(true, 1);
        order.start(0, 0);
        order.send(5);
        order.tick(1);
        DUE.is("29 one in order is lost", 0, order.way(true, -1, 0));
        DUE.is("29 it is SENT", 1, order.sender(4));
        CommandLink directive = new CommandLink();
        directive.fate(true, 1);
        directive.renumber(9);
        directive.start(2, 0);
        directive.tick(1);
        DUE.is("29 a DIRECTIVE is lost", 0, directive.way(true, -1, 0));
        directive.tick(12);
        DUE.is("29 it goes again", 1, directive.way(true, -1, 0));
        CommandLink off = new CommandLink();
        off.fate(true, 1);
        off.tick(60);
        DUE.is("29 none goes: the FATE waits", -1, off.fate(true, 1));
    }

    /** "it is lost without a DRAW". */
    private static void fateWithoutADraw() {
        CommandLink x = new CommandLink();
        x.set(8, 45);
        x.set(9, 45);
        x.state(77);
        x.fate(true, 1);
        x.fate(false, 1);
        x.past(1);
        x.tick(4);
        DUE.is("29 neither of both has a DRAW", 77, x.look(12));
        DUE.is("29 both are lost", 0, x.way(true, -1, 0) + x.way(false, -1, 0));
        CommandLink y = new CommandLink();
        y.state(77);
        y.past(1);
        y.tick(1);
        DUE.is("29 one without a FATE has a DRAW, LOSS 0", 77 * 1664525 + 1013904223, y.look(12));
    }

    /** "NONE for another what." */
    private static void truthsThatAreNone() {
        for (int what : new int[] {-1, 5, -2, 6, MIN, MAX}) {
            REFUSED.none("30 what " + what, x -> x.truth(what));
        }
    }

    /** "1 how far NEXT is behind SEEN, 2 how far NUMBER is behind NEXT (each as they go round)". */
    private static void truthGoesRound() {
        int[][] cases = {{0, 0}, {0, 1}, {1, 0}, {0, 255}, {255, 0}, {200, 100}, {100, 200}, {128, 0}, {255, 254}};
        for (int[] c : cases) {
            CommandLink x = nextIs(c[0], 10);
            x.direct(0);
            x.renumber(c[1]);
            String text = "30 NEXT " + c[0] + ", SEEN and NUMBER " + c[1];
            DUE.is(text + ": NEXT behind SEEN", (c[0] - c[1] + 256) % 256, x.truth(1));
            DUE.is(text + ": NUMBER behind NEXT", (c[1] - c[0] + 256) % 256, x.truth(2));
            DUE.is(text + ": none is SENT", 0, x.truth(0));
        }
    }

    /** "0 how many of SENT lie nearer behind SEEN than NEXT does". */
    private static void truthOfSentNearer() {
        for (int first : new int[] {0, 253, 254, 255}) {
            for (int taken = 0; taken <= 4; taken++) {
                CommandLink y = new CommandLink();
                y.set(6, 1);
                y.set(4, 99);
                y.set(10, 20);
                y.start(3, first);
                y.tick(2);
                y.direct(0);
                y.start(0, 0);
                for (int v = 0; v < 3; v++) {
                    y.send(v);
                }
                y.tick(3);
                Ask.comes(y, 2, 0, 1, first + taken & 255);
                DUE.is("30 NEXT is so far behind SEEN", taken, y.truth(1));
                DUE.is("30 so many of three lie nearer, from " + first, Math.min(3, taken), y.truth(0));
                DUE.is("30 NUMBER behind NEXT", (3 - taken + 256) % 256, y.truth(2));
            }
            CommandLink z = Ask.quick();
            z.direct(0);
            z.renumber(first);
            z.start(0, 0);
            z.send(1);
            z.tick(1);
            z.drop(true, 0);
            Ask.comes(z, 2, 0, 1, first + 255 & 255);
            DUE.is("30 NEXT one ahead of SEEN is 255 behind: all lie nearer", 1, z.truth(0));
            DUE.is("30 255", 255, z.truth(1));
        }
    }

    /** "3 .. (sent by hand into the LINE less those in LINE and SENT), 4 how many were sent into the LINE in all". */
    private static void truthOfAllThatWereSent() {
        CommandLink x = new CommandLink();
        x.send(1);
        x.past(2);
        DUE.is("30 none in MACHINE 6, none past the order", 0, x.truth(4));
        x.start(0, 0);
        for (int v = 0; v < 9; v++) {
            x.send(v);
        }
        DUE.is("30 eight, the ninth is refused", 8, x.truth(4));
        DUE.is("30 none is nowhere", 0, x.truth(3));
        x.tick(4);
        DUE.is("30 SENT are somewhere", 0, x.truth(3));
        x.tick(7);
        DUE.is("30 four in LINE", 4, x.sender(3));
        DUE.is("30 one SENT", 1, x.sender(4));
        DUE.is("30 three gone by a REPORT are nowhere", 3, x.truth(3));
        x.direct(0);
        DUE.is("30 gone by an ALARM are nowhere", 8, x.truth(3));
        DUE.is("30 eight in all", 8, x.truth(4));
        Ask.run(x, "start; send 1; send 2;");
        DUE.is("30 by a plan, too", 10, x.truth(4));
        x.image(true);
        x.send(3);
        x.image(false);
        DUE.is("30 as the image was", 10, x.truth(4));
        CommandLink many = new CommandLink();
        many.start(0, 0);
        for (int round = 0; round < 13; round++) {
            for (int v = 0; v < 8; v++) {
                many.send(v);
            }
            many.direct(0);
            many.start(0, 0);
        }
        DUE.is("30 more than THE LEDGER has lines", 104, many.truth(4));
        DUE.is("30 all are nowhere", 104, many.truth(3));
        DUE.is("30 THE LEDGER has a hundred", 100, many.ledger(-1, 0));
    }
}
