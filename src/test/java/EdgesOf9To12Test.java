import java.util.function.Supplier;

/** The edges that the document names in promises 9 (take), 10 (tick), 11 (drop), 12 (spoil). */
public final class EdgesOf9To12Test {
    private static final Due DUE = new Due("EdgesOf9To12Test", 9, 12);
    private static final Refused REFUSED = new Refused(DUE);
    private static final int MIN = Integer.MIN_VALUE;
    private static final int MAX = Integer.MAX_VALUE;

    public static void main(String[] args) {
        noneLiesThere();
        oneAndNoMore();
        theFirstFirst();
        takenEndsWaits();
        takenWhenLocked();
        ticksThatCanBe();
        ticksThatCantBe();
        tickOf9999();
        framesComeAheadOfTheReport();
        reportAheadOfTheTimer();
        timerAheadOfTheTurn();
        oneFrameEachTick();
        neverAheadOfAnEarlierOne();
        whichCanBeDropped();
        dropOfTheOnly();
        droppedFirstOfThoseThatWait();
        whichCanBeSpoilt();
        spoiltIsTheByte();
        goodAndNotGood();
        reportGoodAndNotGood();
        DUE.end();
    }

    /** "NONE if none lies there". */
    private static void noneLiesThere() {
        REFUSED.noneIn("9 on a new object", CommandLink::new, x -> x.take());
        REFUSED.noneIn("9 with one on its way", EdgesOf9To12Test::oneOnItsWay, x -> x.take());
        REFUSED.noneIn("9 with no ROOM", EdgesOf9To12Test::waitsWithNone, x -> x.take());
        DUE.is("9 it WAITS still", 1, waitsWithNone().receiver(2));
    }

    private static CommandLink oneOnItsWay() {
        CommandLink x = Ask.quick();
        x.send(5);
        x.tick(1);
        return x;
    }

    private static CommandLink waitsWithNone() {
        CommandLink x = Ask.quick();
        x.set(1, 0);
        x.send(5);
        x.tick(2);
        return x;
    }

    private static void oneAndNoMore() {
        for (int command : new int[] {0, 9999}) {
            CommandLink x = Ask.quick();
            x.send(command);
            x.tick(2);
            DUE.is("9 the command " + command, command, x.take());
            DUE.is("9 none lies there then", 0, x.receiver(5));
            DUE.is("9 none is TAKEN then", -1, x.take());
            DUE.is("9 ORDER has it still", command, x.receiver(100));
        }
        CommandLink past = Ask.quick();
        past.past(7);
        past.tick(2);
        DUE.is("9 what is past the order does not lie there", -1, past.take());
    }

    /** "lie there till they are TAKEN (by hand, the first first)". */
    private static void theFirstFirst() {
        CommandLink x = Ask.quick();
        x.set(1, 8);
        for (int v = 1; v <= 8; v++) {
            x.send(v);
        }
        x.tick(9);
        for (int v = 1; v <= 8; v++) {
            DUE.is("9 the first of those that lie there", v, x.take());
            DUE.is("9 so many are left", 8 - v, x.receiver(5));
        }
        DUE.is("9 none is left", -1, x.take());
    }

    /** "When one is TAKEN: WAITS 0." RESEND stays. */
    private static void takenEndsWaits() {
        CommandLink x = Ask.quick();
        x.set(1, 2);
        x.send(1);
        x.send(2);
        x.send(3);
        x.tick(4);
        DUE.is("9 it WAITS", "WAIT 2R", Ask.text(x, 2));
        DUE.is("9 one is TAKEN", 1, x.take());
        DUE.is("9 it WAITS no more", "OPEN 2R", Ask.text(x, 2));
        DUE.is("9 one lies there still", 1, x.receiver(5));
        CommandLink full = Ask.quick();
        full.send(1);
        full.send(2);
        full.tick(3);
        full.set(1, 0);
        full.send(3);
        full.tick(2);
        DUE.is("9 two lie there, ROOM 0", "WAIT 2R", Ask.text(full, 2));
        full.take();
        DUE.is("9 WAITS 0, though there is no room yet", "OPEN 2R", Ask.text(full, 2));
    }

    private static void takenWhenLocked() {
        CommandLink x = Ask.quick();
        x.send(5);
        x.tick(2);
        Ask.comes(x, 0, 100, 0, 5);
        DUE.is("9 LOCKED", 1, x.receiver(1));
        DUE.is("9 one is TAKEN when LOCKED", 5, x.take());
        DUE.is("9 LOCKED still", 1, x.receiver(1));
    }

    /** "n TICKS (1 .. 60): TICK". */
    private static void ticksThatCanBe() {
        for (int n : new int[] {1, 2, 59, 60}) {
            CommandLink x = new CommandLink();
            DUE.is("10 " + n + " TICKS", n, x.tick(n));
            DUE.is("10 " + n + " more", 2 * n, x.tick(n));
            DUE.is("10 TICK", 2 * n, x.look(0));
        }
        CommandLink once = Scenes.in(1);
        CommandLink oneByOne = Scenes.in(1);
        once.tick(60);
        for (int i = 0; i < 60; i++) {
            oneByOne.tick(1);
        }
        DUE.is("10 60 at once are 60 one by one", Ask.everything(oneByOne), Ask.everything(once));
    }

    /** "NONE, and nothing is done, if n can't be". */
    private static void ticksThatCantBe() {
        for (int n : new int[] {0, 61, -1, 62, -60, 9999, 10000, MIN, MAX}) {
            REFUSED.none("10 " + n + " can't be", x -> x.tick(n));
        }
    }

    /** A link with something to do at each TICK. */
    private static CommandLink at(int tick) {
        CommandLink x = new CommandLink();
        x.set(10, 20);
        for (int i = 0; i < tick / 60; i++) {
            x.tick(60);
        }
        if (tick % 60 != 0) {
            x.tick(tick % 60);
        }
        x.start(0, 0);
        x.send(5);
        x.past(6);
        DUE.is("10 it is TICK " + tick, tick, x.look(0));
        return x;
    }

    /** "or it would be above 9999". */
    private static void tickOf9999() {
        DUE.is("10 9939 and 60", 9999, at(9939).tick(60));
        REFUSED.noneIn("10 9940 and 60", () -> at(9940), x -> x.tick(60));
        DUE.is("10 9940 and 59", 9999, at(9940).tick(59));
        DUE.is("10 9998 and 1", 9999, at(9998).tick(1));
        REFUSED.noneIn("10 9998 and 2", () -> at(9998), x -> x.tick(2));
        REFUSED.noneIn("10 9999 and 1", () -> at(9999), x -> x.tick(1));
        REFUSED.noneIn("10 9999 and 60", () -> at(9999), x -> x.tick(60));
        CommandLink x = at(9999);
        DUE.is("10 all else can be at 9999", 2, x.send(7));
        DUE.is("10 and its line has that TICK", 9999, x.ledger(1, 1));
        CommandLink y = at(9995);
        y.tick(4);
        DUE.is("10 what is due at 9999 comes", 6, y.receiver(200));
    }

    /** "FRAMES whose TICK it is come ..; then the receiver REPORTS". */
    private static void framesComeAheadOfTheReport() {
        CommandLink x = new CommandLink();
        x.start(0, 0);
        x.send(5);
        x.tick(4);
        DUE.is("10 the REPORT of TICK 4 knows the FRAME of TICK 4", "0 1 86", Ask.bytes(x, false, 0));
        CommandLink y = new CommandLink();
        y.start(0, 0);
        y.tick(1);
        y.send(5);
        y.tick(3);
        DUE.is("10 but not that of TICK 5", "0 0 85", Ask.bytes(y, false, 0));
    }

    /** "then REPORTS likewise, by DOWN; then THE TIMER". */
    private static void reportAheadOfTheTimer() {
        for (int patience = 6; patience <= 7; patience++) {
            CommandLink x = new CommandLink();
            x.set(4, patience);
            x.set(3, 1);
            x.start(0, 0);
            x.send(5);
            x.tick(7);
            DUE.is("10 goes at 1, is known at 7, PATIENCE " + patience, 0, x.alarm(-1));
            DUE.is("10 none is SENT", 0, x.sender(4));
        }
        CommandLink x = new CommandLink();
        x.set(4, 5);
        x.set(3, 1);
        x.start(0, 0);
        x.send(5);
        x.tick(7);
        DUE.is("10 PATIENCE 5 is over at 6", 5, x.alarm(0));
    }

    /** "then THE TIMER; then THE TURN". */
    private static void timerAheadOfTheTurn() {
        CommandLink x = new CommandLink();
        x.set(4, 1);
        x.set(6, 40);
        x.start(0, 0);
        x.send(5);
        x.tick(1);
        DUE.is("10 TIMER 1 behind the TURN", 1, x.sender(8));
        x.tick(1);
        DUE.is("10 MARKED by the TIMER it goes in that TICK", 2, x.look(13));
        DUE.is("10 and is MARKED no more", 0, x.sender(5));
    }

    /** "THE TURN of the sender, one FRAME each TICK at most". */
    private static void oneFrameEachTick() {
        CommandLink x = new CommandLink();
        x.set(2, 20);
        x.start(0, 0);
        for (int v = 0; v < 8; v++) {
            x.send(v);
        }
        for (int v = 0; v < 4; v++) {
            x.past(v);
        }
        for (int went = 1; went <= 12; went++) {
            x.tick(1);
            DUE.is("10 one each TICK", went, x.look(13));
        }
        x.tick(1);
        DUE.is("10 none is left", 12, x.look(13));
    }

    /** "but never ahead of an earlier one: it waits behind it". */
    private static void neverAheadOfAnEarlierOne() {
        CommandLink x = new CommandLink();
        x.set(6, 40);
        x.past(1);
        x.past(2);
        x.past(3);
        x.tick(1);
        x.set(6, 1);
        x.tick(1);
        x.set(6, 39);
        x.tick(1);
        x.tick(37);
        DUE.is("10 at 40 none came, though one was due at 3", 0, x.receiver(7));
        DUE.is("10 three are on their way", 3, x.way(true, -1, 0));
        x.tick(1);
        DUE.is("10 at 41 the first and the second", 2, x.receiver(7));
        DUE.is("10 the first first", 1, x.receiver(200));
        x.tick(1);
        DUE.is("10 the third at 42, its own TICK", 3, x.receiver(7));
        CommandLink y = new CommandLink();
        y.set(10, 1);
        y.set(7, 40);
        y.tick(1);
        y.set(7, 1);
        y.tick(39);
        DUE.is("10 REPORTS likewise: none came by 40", 0, y.look(17));
        y.tick(1);
        DUE.is("10 all forty at 41", 40, y.look(17));
        DUE.is("10 but for that of 41", 1, y.way(false, -1, 0));
    }

    /** Three FRAMES and three REPORTS on their way. */
    private static CommandLink threeEach() {
        CommandLink x = new CommandLink();
        x.set(6, 40);
        x.set(7, 40);
        x.set(10, 1);
        x.start(3, 9);
        x.past(1);
        x.past(300);
        x.tick(3);
        return x;
    }

    /** "The i-th FRAME on its way (up true), the i-th REPORT is dropped .. false if there is none such". */
    private static void whichCanBeDropped() {
        for (boolean up : new boolean[] {true, false}) {
            for (int i = 0; i < 3; i++) {
                CommandLink x = threeEach();
                String[] left = {Ask.bytes(x, up, i == 0 ? 1 : 0), Ask.bytes(x, up, i == 2 ? 1 : 2)};
                int tick = x.way(up, i == 2 ? 1 : 2, -1);
                DUE.is("11 number " + i + " of three", true, x.drop(up, i));
                DUE.is("11 two are left", 2, x.way(up, -1, 0));
                DUE.is("11 the first left", left[0], Ask.bytes(x, up, 0));
                DUE.is("11 the second left", left[1], Ask.bytes(x, up, 1));
                DUE.is("11 with its TICK", tick, x.way(up, 1, -1));
                DUE.is("11 no third", -1, x.way(up, 2, 0));
                DUE.is("11 the other way has three", 3, x.way(!up, -1, 0));
                DUE.is("11 it is not lost by draws", 0, x.look(15));
                DUE.is("11 it went, too", 3, x.look(up ? 13 : 14));
            }
            for (int i : new int[] {-1, 3, -2, 4, 40, 48, MIN, MAX}) {
                REFUSED.noIn("11 number " + i + " of three", EdgesOf9To12Test::threeEach, x -> x.drop(up, i));
            }
            REFUSED.noIn("11 none on its way", CommandLink::new, x -> x.drop(up, 0));
        }
    }

    private static void dropOfTheOnly() {
        CommandLink x = new CommandLink();
        x.past(5);
        x.tick(1);
        DUE.is("11 the only one", true, x.drop(true, 0));
        DUE.is("11 none is left", false, x.drop(true, 0));
        x.tick(5);
        DUE.is("11 it never comes", 0, x.receiver(7));
        DUE.is("11 it is not thrown away by the receiver", 0, x.look(16));
        CommandLink y = new CommandLink();
        y.tick(4);
        DUE.is("11 the only REPORT", true, y.drop(false, 0));
        y.tick(3);
        DUE.is("11 it never comes, either", 0, y.look(17));
    }

    /** "FRAMES whose TICK it is (or was) come": nothing is ahead any more. */
    private static void droppedFirstOfThoseThatWait() {
        CommandLink x = new CommandLink();
        x.set(6, 40);
        x.past(1);
        x.past(2);
        x.tick(1);
        x.set(6, 1);
        x.tick(9);
        x.drop(true, 0);
        DUE.is("11 not yet", 0, x.receiver(7));
        x.tick(1);
        DUE.is("11 at the next TICK", 2, x.receiver(200));
    }

    /** "Byte k of the i-th FRAME (REPORT) on its way is v (0 .. 255) .. false if there is none such, or v can't be". */
    private static void whichCanBeSpoilt() {
        Supplier<CommandLink> scene = EdgesOf9To12Test::threeEach;
        for (boolean up : new boolean[] {true, false}) {
            int last = up ? 4 : 2;
            for (int i : new int[] {-1, 3, -2, 48, MIN, MAX}) {
                REFUSED.noIn("12 number " + i + " of three", scene, x -> x.spoil(up, i, 0, 0));
            }
            for (int k : new int[] {-1, last + 1, -2, last + 2, 240, MIN, MAX}) {
                REFUSED.noIn("12 byte " + k, scene, x -> x.spoil(up, 0, k, 0));
                REFUSED.noIn("12 byte " + k + " of the second", scene, x -> x.spoil(up, 1, k, 0));
            }
            for (int v : new int[] {-1, 256, -256, 257, MIN, MAX}) {
                REFUSED.noIn("12 v " + v, scene, x -> x.spoil(up, 0, 0, v));
            }
            REFUSED.noIn("12 none on its way", CommandLink::new, x -> x.spoil(up, 0, 0, 0));
        }
    }

    private static void spoiltIsTheByte() {
        for (boolean up : new boolean[] {true, false}) {
            for (int i = 0; i < 3; i++) {
                for (int k = 0; k < (up ? 5 : 3); k++) {
                    for (int v : new int[] {0, 1, 254, 255}) {
                        CommandLink x = threeEach();
                        DUE.is("12 byte " + k + " of " + i + " is " + v, true, x.spoil(up, i, k, v));
                        CommandLink y = threeEach();
                        for (int at = 0; at < 3; at++) {
                            for (int b = 0; b < (up ? 5 : 3); b++) {
                                int want = at == i && b == k ? v : y.way(up, at, b);
                                DUE.is("12 byte " + b + " of " + at, want, x.way(up, at, b));
                            }
                        }
                        DUE.is("12 it is not spoilt by draws", 0, x.look(15));
                    }
                }
            }
        }
    }

    private static String met(int kind, int n, int high, int low, int check) {
        CommandLink x = Ask.quick();
        Ask.comesWith(x, kind, n, high, low, kind + n + high + low + 85 + check & 255);
        return x.receiver(0) + " " + x.receiver(4) + " " + x.receiver(6) + " " + x.receiver(7) + " " + x.look(16);
    }

    /** "What is not so (CHECK, KIND above 2, command above 9999, HIGH above 1 of KIND 2 ..) is not good". */
    private static void goodAndNotGood() {
        String thrown = "0 0 0 0 1";
        DUE.is("12 KIND 0 with its CHECK", "1 0 1 0 0", met(0, 0, 0, 5, 0));
        for (int check : new int[] {1, 255, 128}) {
            DUE.is("12 KIND 0, CHECK " + check + " more", thrown, met(0, 0, 0, 5, check));
            DUE.is("12 KIND 1, CHECK " + check + " more", thrown, met(1, 0, 0, 5, check));
            DUE.is("12 KIND 2, CHECK " + check + " more", thrown, met(2, 0, 0, 0, check));
        }
        DUE.is("12 KIND 2", "0 1 0 0 0", met(2, 0, 0, 0, 0));
        DUE.is("12 KIND 3", thrown, met(3, 0, 0, 0, 0));
        DUE.is("12 KIND 255", thrown, met(255, 0, 0, 0, 0));
        DUE.is("12 KIND 0, command 9999", "1 0 1 0 0", met(0, 0, 39, 15, 0));
        DUE.is("12 KIND 0, command 10000", thrown, met(0, 0, 39, 16, 0));
        DUE.is("12 KIND 0, command 9983 and 255", thrown, met(0, 0, 39, 255, 0));
        DUE.is("12 KIND 0, HIGH 40", thrown, met(0, 0, 40, 0, 0));
        DUE.is("12 KIND 0, HIGH 38, LOW 255", "1 0 1 0 0", met(0, 0, 38, 255, 0));
        DUE.is("12 KIND 1, command 9999", "0 1 0 1 0", met(1, 0, 39, 15, 0));
        DUE.is("12 KIND 1, command 10000", thrown, met(1, 0, 39, 16, 0));
        DUE.is("12 KIND 1, HIGH 255", thrown, met(1, 0, 255, 255, 0));
        DUE.is("12 KIND 2, HIGH 1", "200 1 0 0 0", met(2, 0, 1, 200, 0));
        DUE.is("12 KIND 2, HIGH 2", thrown, met(2, 0, 2, 0, 0));
        DUE.is("12 KIND 2, HIGH 255", thrown, met(2, 0, 255, 0, 0));
        DUE.is("12 KIND 2, set 0", "0 1 0 0 0", met(2, 0, 1, 0, 0));
        DUE.is("12 KIND 2, set 255", "255 1 0 0 0", met(2, 0, 1, 255, 0));
        for (int any : new int[] {1, 255}) {
            DUE.is("12 N of KIND 1 is not asked", "0 1 0 1 0", met(1, any, 0, 5, 0));
            DUE.is("12 N of an unlock is not asked", "0 1 0 0 0", met(2, any, 0, 0, 0));
            DUE.is("12 N of a set is not asked", "7 1 0 0 0", met(2, any, 1, 7, 0));
            DUE.is("12 LOW of an unlock is not asked", "0 1 0 0 0", met(2, 0, 0, any, 0));
        }
    }

    private static String heard(int flags, int n, int check) {
        CommandLink x = new CommandLink();
        x.tick(4);
        x.spoil(false, 0, 0, flags);
        x.spoil(false, 0, 1, n);
        x.spoil(false, 0, 2, flags + n + 85 + check & 255);
        x.tick(3);
        return Ask.text(x, 0) + "," + x.look(17);
    }

    /** "FLAGS above 31" is not good. */
    private static void reportGoodAndNotGood() {
        DUE.is("12 FLAGS 0", "---0 0,1", heard(0, 0, 0));
        DUE.is("12 FLAGS 31", "LWR3 255,1", heard(31, 255, 0));
        DUE.is("12 FLAGS 32", "?,0", heard(32, 0, 0));
        DUE.is("12 FLAGS 255", "?,0", heard(255, 0, 0));
        for (int check : new int[] {1, 255, 128}) {
            DUE.is("12 CHECK " + check + " more", "?,0", heard(0, 0, check));
            DUE.is("12 CHECK " + check + " more of FLAGS 31", "?,0", heard(31, 255, check));
        }
    }
}
