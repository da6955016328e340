/** The edges that the document names in promises 18 (sender), 19 (receiver): what both come to. */
public final class EdgesOf18To19Test {
    private static final Due DUE = new Due("EdgesOf18To19Test", 18, 19);
    private static final Refused REFUSED = new Refused(DUE);
    private static final int MIN = Integer.MIN_VALUE;
    private static final int MAX = Integer.MAX_VALUE;
    private static final int LOCKED = 1;
    private static final int WAITS = 2;
    private static final int RESEND = 4;

    public static void main(String[] args) {
        eachMachineIsTold();
        otherWhatsOfTheSender();
        sentFromNoneToTwenty();
        directives();
        numberGoesRound();
        turnOfPassing();
        turnOfTheDirective();
        turnOfTheMarked();
        turnOfANewFrame();
        turnInMachines3To6();
        newFrameAtTheWidth();
        triesAtANewFrame();
        timerInMachine1And2();
        timerInMachine3();
        timerInMachine4();
        timerInMachine5();
        timerThatDoesNotRun();
        suspendedKeepsAll();
        receiverOfLittle();
        otherWhatsOfTheReceiver();
        hundredOfOrder();
        hundredOfPast();
        countGoesRound();
        nextGoesRound();
        roomToTheLast();
        waitsThoughThereIsRoom();
        aheadToTheLast();
        behindToTheLast();
        outsideOnEitherSide();
        smallestWindow();
        lockedThrowsAway();
        pastTheOrderAlways();
        unlockInEachState();
        setInEachState();
        notGoodChangesNothing();
        DUE.end();
    }

    /** "what 0 MACHINE .. 9 HELD". */
    private static void eachMachineIsTold() {
        for (int m = 1; m <= 6; m++) {
            DUE.is("18 MACHINE " + m, m, Scenes.in(m).sender(0));
            DUE.is("18 not HELD in " + m, 0, Scenes.in(m).sender(9));
        }
        for (int m = 1; m <= 5; m++) {
            DUE.is("18 MACHINE 6 when HELD", 6, Scenes.held(m).sender(0));
            DUE.is("18 HELD " + m, m, Scenes.held(m).sender(9));
        }
    }

    /** "NONE - 1 for another what". */
    private static void otherWhatsOfTheSender() {
        for (int what : new int[] {-1, 11, -2, 12, 99, 120, 199, 220, 300, MIN, MAX}) {
            REFUSED.number("18 what " + what, -2, x -> x.sender(what));
        }
    }

    /** "100 + i the command of the i-th of SENT, 200 + i its N". */
    private static void sentFromNoneToTwenty() {
        CommandLink x = new CommandLink();
        x.set(2, 20);
        x.set(4, 99);
        x.set(6, 40);
        x.set(7, 40);
        x.renumber(250);
        x.start(0, 0);
        DUE.is("18 none is SENT", -2, x.sender(100));
        DUE.is("18 no N of it", -2, x.sender(200));
        for (int sent = 1; sent <= 20; sent++) {
            x.send(9980 + sent - 1);
            x.tick(1);
            DUE.is("18 SENT", sent, x.sender(4));
            DUE.is("18 the latest of " + sent, 9980 + sent - 1, x.sender(100 + sent - 1));
            DUE.is("18 its N", (250 + sent - 1) % 256, x.sender(200 + sent - 1));
            DUE.is("18 none behind " + sent, -2, x.sender(100 + sent));
            DUE.is("18 no N behind " + sent, -2, x.sender(200 + sent));
        }
        DUE.is("18 the first is still the first", 9980, x.sender(100));
        DUE.is("18 its N, too", 250, x.sender(200));
        DUE.is("18 the last that can be", 9999, x.sender(119));
        DUE.is("18 its N, gone round", 13, x.sender(219));
    }

    /** "10 DIRECTIVE (NONE; 0 unlock, 1 set)". */
    private static void directives() {
        CommandLink x = new CommandLink();
        DUE.is("18 no DIRECTIVE", -1, x.sender(10));
        x.start(2, 0);
        DUE.is("18 unlock", 0, x.sender(10));
        x.direct(0);
        DUE.is("18 none behind the STOP", -1, x.sender(10));
        x.start(3, 0);
        DUE.is("18 a set of 0 is a set", 1, x.sender(10));
        x.direct(0);
        x.start(3, 255);
        DUE.is("18 a set of 255", 1, x.sender(10));
    }

    /** "255 and 1 is 0". */
    private static void numberGoesRound() {
        CommandLink x = new CommandLink();
        x.renumber(255);
        x.start(0, 0);
        x.send(1);
        x.send(2);
        x.tick(1);
        DUE.is("18 NUMBER behind 255", 0, x.sender(1));
        DUE.is("18 the FRAME has 255", 255, x.sender(200));
        x.tick(1);
        DUE.is("18 NUMBER behind 0", 1, x.sender(1));
        DUE.is("18 the FRAME has 0", 0, x.sender(201));
    }

    /** "PASSING has any: the first goes (KIND 1)": ahead of all else. */
    private static void turnOfPassing() {
        for (int m = 1; m <= 6; m++) {
            CommandLink x = Scenes.in(m);
            int marked = x.sender(5);
            int line = x.sender(3);
            x.tick(2);
            int last = x.way(true, -1, 0) - 1;
            DUE.is("18 MACHINE " + m + ": the first of PASSING", "1 0 0 61 147", Ask.bytes(x, true, last - 1));
            DUE.is("18 MACHINE " + m + ": the second of PASSING", "1 0 0 62 148", Ask.bytes(x, true, last));
            DUE.is("18 MACHINE " + m + ": the MARKED wait", marked, x.sender(5));
            DUE.is("18 MACHINE " + m + ": LINE waits", line, x.sender(3));
            DUE.is("18 MACHINE " + m + ": PASSING is empty", 0, x.sender(6));
        }
    }

    /** "Else MACHINE 5: is DIRECTIVE MARKED: it goes, not MARKED then". */
    private static void turnOfTheDirective() {
        CommandLink x = new CommandLink();
        x.set(6, 40);
        x.set(10, 20);
        x.set(4, 5);
        x.start(2, 0);
        x.tick(1);
        DUE.is("18 it goes", 1, x.look(13));
        DUE.is("18 the FRAME of an unlock", "2 0 0 0 87", Ask.bytes(x, true, 0));
        x.tick(3);
        DUE.is("18 it is not MARKED then", 1, x.look(13));
        x.tick(1);
        DUE.is("18 till the TIMER MARKS it: TRIES", 2, x.sender(7));
        DUE.is("18 and it goes at once", 2, x.look(13));
        DUE.is("18 TIMER anew", 5, x.sender(8));
    }

    /** "is any of SENT MARKED: the first such goes, not MARKED then". */
    private static void turnOfTheMarked() {
        CommandLink x = Ask.withReport(3, RESEND, 0);
        x.send(200);
        for (int n = 0; n < 3; n++) {
            x.tick(1);
            DUE.is("18 MARKED", 2 - n, x.sender(5));
            DUE.is("18 the first such goes", n, x.way(true, 3 + n, 1));
            DUE.is("18 LINE waits for the MARKED", 1, x.sender(3));
        }
        x.tick(1);
        DUE.is("18 then the new one", 3, x.way(true, 6, 1));
        DUE.is("18 LINE is empty", 0, x.sender(3));
        x.tick(1);
        DUE.is("18 nothing is left", 7, x.way(true, -1, 0));
    }

    private static void turnOfANewFrame() {
        CommandLink x = new CommandLink();
        x.start(0, 0);
        x.tick(1);
        DUE.is("18 LINE is empty: none goes", 0, x.look(13));
        x.send(7);
        x.tick(1);
        DUE.is("18 its first goes", 1, x.look(13));
        DUE.is("18 it is SENT", 1, x.sender(4));
        DUE.is("18 not MARKED", 0, x.sender(5));
        DUE.is("18 NUMBER one more", 1, x.sender(1));
        DUE.is("18 SEEN stays", 0, x.sender(2));
        DUE.is("18 TIMER is PATIENCE", 12, x.sender(8));
        x.send(8);
        x.tick(1);
        DUE.is("18 TIMER at each new FRAME", 12, x.sender(8));
        x.tick(1);
        DUE.is("18 it runs without one", 11, x.sender(8));
    }

    /** "(MACHINE 3, 4, 6: nothing else.)" */
    private static void turnInMachines3To6() {
        CommandLink waiting = Scenes.in(3);
        waiting.tick(2);
        int went = waiting.look(13);
        waiting.tick(5);
        DUE.is("18 MACHINE 3: none goes", went, waiting.look(13));
        DUE.is("18 MACHINE 3: both are MARKED", 2, waiting.sender(5));
        DUE.is("18 MACHINE 3: LINE waits", 1, waiting.sender(3));
        CommandLink checks = Scenes.in(4);
        checks.tick(2);
        went = checks.look(13);
        checks.tick(5);
        DUE.is("18 MACHINE 4: none goes", went, checks.look(13));
        for (int m = 1; m <= 5; m++) {
            CommandLink held = Scenes.held(m);
            held.tick(2);
            went = held.look(13);
            held.tick(5);
            DUE.is("18 MACHINE 6, HELD " + m + ": none goes", went, held.look(13));
        }
    }

    /** "has LINE any, are SENT fewer than K". */
    private static void newFrameAtTheWidth() {
        for (int k : new int[] {1, 2, 3, 8}) {
            CommandLink x = new CommandLink();
            x.set(2, k);
            x.set(6, 40);
            x.set(10, 20);
            x.start(0, 0);
            for (int v = 0; v < 8; v++) {
                x.send(v);
            }
            for (int sent = 1; sent <= k; sent++) {
                x.tick(1);
                DUE.is("18 K " + k + ": one more SENT", sent, x.sender(4));
            }
            x.tick(1);
            DUE.is("18 K " + k + ": and no more", k, x.sender(4));
            DUE.is("18 K " + k + ": LINE", 8 - k, x.sender(3));
        }
    }

    /** "was SENT empty: TRIES is 1". */
    private static void triesAtANewFrame() {
        CommandLink x = new CommandLink();
        x.set(4, 3);
        x.set(6, 40);
        x.set(7, 40);
        x.start(0, 0);
        x.send(1);
        x.tick(4);
        DUE.is("18 TRIES 2 by the TIMER", 2, x.sender(7));
        x.send(2);
        x.tick(1);
        DUE.is("18 a new FRAME behind another: TRIES stay", 2, x.sender(7));
        DUE.is("18 TIMER is PATIENCE", 3, x.sender(8));
        CommandLink y = Ask.withReport(1, RESEND, 0);
        y.tick(1);
        DUE.is("18 TRIES 2 by a REPORT", 2, y.sender(7));
        y.set(10, 1);
        y.tick(1);
        Ask.forgeReport(y, 0, 0, 1);
        y.tick(1);
        DUE.is("18 SENT is empty", 0, y.sender(4));
        DUE.is("18 TRIES stay till then", 2, y.sender(7));
        y.send(2);
        y.drop(false, 0);
        y.tick(1);
        DUE.is("18 a new FRAME, SENT was empty: TRIES 1", 1, y.sender(7));
    }

    /** One SENT, in MACHINE 1 or 2, with TRIES 2, TIMER 1. */
    private static CommandLink triesTwo(int machine, int limit, int manner) {
        CommandLink x = new CommandLink();
        x.set(3, 9);
        x.set(4, 3);
        x.set(5, manner);
        x.set(6, 40);
        x.set(7, 1);
        x.set(10, 20);
        x.start(0, 0);
        x.send(1);
        if (machine == 1) {
            x.tick(4);
        } else {
            x.set(10, 1);
            x.tick(1);
            x.set(10, 20);
            Ask.forgeReport(x, 0, machine == 2 ? RESEND : RESEND + WAITS, 0);
            x.tick(1);
        }
        x.tick(machine == 1 ? 2 : 1);
        x.set(3, limit);
        DUE.is("18 MACHINE " + machine, machine, x.sender(0));
        DUE.is("18 TRIES 2 in " + machine, 2, x.sender(7));
        DUE.is("18 TIMER 1 in " + machine, 1, x.sender(8));
        return x;
    }

    /** "MACHINE 5, 1, 2: is TRIES below LIMIT: MARK all ..; else MANNER 0: ALARM 5, 1: SUSPENDED". */
    private static void timerInMachine1And2() {
        for (int m = 1; m <= 2; m++) {
            for (int manner = 0; manner <= 1; manner++) {
                CommandLink below = triesTwo(m, 3, manner);
                int went = below.look(13);
                below.tick(1);
                DUE.is("18 " + m + ", TRIES below LIMIT: it stays", m, below.sender(0));
                DUE.is("18 " + m + ", TRIES below LIMIT: TRIES one more", 3, below.sender(7));
                DUE.is("18 " + m + ", TRIES below LIMIT: TIMER", 3, below.sender(8));
                DUE.is("18 " + m + ", TRIES below LIMIT: MARKED, it goes", went + 1, below.look(13));
                for (int limit = 1; limit <= 2; limit++) {
                    CommandLink x = triesTwo(m, limit, manner);
                    x.tick(1);
                    String text = "18 " + m + ", LIMIT " + limit + ", MANNER " + manner;
                    DUE.is(text + ": MACHINE", 6, x.sender(0));
                    DUE.is(text + ": HELD", manner == 0 ? 0 : m, x.sender(9));
                    DUE.is(text + ": ALARMS", 1 - manner, x.alarm(-1));
                    DUE.is(text + ": SENT", manner, x.sender(4));
                    DUE.is(text + ": TIMER", 0, x.sender(8));
                }
            }
        }
    }

    /** "MACHINE 3: TRIES LIMIT or above: likewise, else TIMER is PATIENCE". */
    private static void timerInMachine3() {
        for (int manner = 0; manner <= 1; manner++) {
            CommandLink below = triesTwo(3, 3, manner);
            int went = below.look(13);
            below.tick(1);
            DUE.is("18 3, TRIES below LIMIT: it stays", 3, below.sender(0));
            DUE.is("18 3, TRIES below LIMIT: TRIES stay", 2, below.sender(7));
            DUE.is("18 3, TRIES below LIMIT: TIMER", 3, below.sender(8));
            DUE.is("18 3, TRIES below LIMIT: none goes", went, below.look(13));
            for (int limit = 1; limit <= 2; limit++) {
                CommandLink x = triesTwo(3, limit, manner);
                x.tick(1);
                DUE.is("18 3, LIMIT " + limit + ": MACHINE", 6, x.sender(0));
                DUE.is("18 3, LIMIT " + limit + ": HELD", 3 * manner, x.sender(9));
                DUE.is("18 3, LIMIT " + limit + ": ALARMS", 1 - manner, x.alarm(-1));
            }
        }
    }

    /** "MACHINE 4: MANNER 0: ALARM 5, 1: it is SUSPENDED", whatever TRIES and LIMIT are. */
    private static void timerInMachine4() {
        for (int limit : new int[] {1, 9}) {
            for (int manner = 0; manner <= 1; manner++) {
                CommandLink x = new CommandLink();
                x.set(3, limit);
                x.set(4, 2);
                x.set(5, manner);
                x.start(1, 0);
                x.tick(1);
                DUE.is("18 4: TIMER 1", 1, x.sender(8));
                DUE.is("18 4: MACHINE 4 still", 4, x.sender(0));
                x.tick(1);
                DUE.is("18 4: MACHINE 6", 6, x.sender(0));
                DUE.is("18 4: HELD", 4 * manner, x.sender(9));
                DUE.is("18 4: ALARM", manner == 0 ? 5 : -1, x.alarm(0));
            }
        }
    }

    private static void timerInMachine5() {
        for (int how = 2; how <= 3; how++) {
            for (int manner = 0; manner <= 1; manner++) {
                CommandLink x = new CommandLink();
                x.set(3, 2);
                x.set(4, 2);
                x.set(5, manner);
                x.set(6, 40);
                x.set(10, 20);
                x.start(how, 9);
                x.tick(2);
                DUE.is("18 5: TRIES 1 below LIMIT 2: once more", 2, x.look(13));
                DUE.is("18 5: TRIES 2", 2, x.sender(7));
                x.tick(1);
                DUE.is("18 5: MACHINE 5 still", 5, x.sender(0));
                x.tick(1);
                DUE.is("18 5: TRIES is LIMIT: no more", 2, x.look(13));
                DUE.is("18 5: MACHINE 6", 6, x.sender(0));
                DUE.is("18 5: HELD", 5 * manner, x.sender(9));
                DUE.is("18 5: ALARM", manner == 0 ? 5 : -1, x.alarm(0));
                DUE.is("18 5: DIRECTIVE", manner == 0 ? -1 : how - 2, x.sender(10));
            }
        }
    }

    /** "TIMER (0: it does not run)". */
    private static void timerThatDoesNotRun() {
        CommandLink x = new CommandLink();
        x.set(4, 1);
        x.start(0, 0);
        x.tick(60);
        DUE.is("18 TIMER 0 stays", 0, x.sender(8));
        DUE.is("18 MACHINE 1 stays", 1, x.sender(0));
        DUE.is("18 TRIES stay", 1, x.sender(7));
        DUE.is("18 no ALARM", 0, x.alarm(-1));
    }

    /** "TO SUSPEND: HELD is MACHINE, MACHINE 6, TIMER 0 (all else stays)". */
    private static void suspendedKeepsAll() {
        for (int m = 1; m <= 3; m++) {
            CommandLink x = Scenes.held(m);
            DUE.is("18 HELD " + m + ": NUMBER", 4, x.sender(1));
            DUE.is("18 HELD " + m + ": SEEN", 2, x.sender(2));
            DUE.is("18 HELD " + m + ": LINE", 1, x.sender(3));
            DUE.is("18 HELD " + m + ": SENT", 2, x.sender(4));
            DUE.is("18 HELD " + m + ": MARKED", m == 3 ? 2 : 0, x.sender(5));
            DUE.is("18 HELD " + m + ": TRIES", m == 1 ? 1 : 2, x.sender(7));
            DUE.is("18 HELD " + m + ": TIMER", 0, x.sender(8));
            DUE.is("18 HELD " + m + ": lines as they were", 1, x.ledger(2, 6));
        }
        DUE.is("18 HELD 5: DIRECTIVE", 1, Scenes.held(5).sender(10));
    }

    private static void receiverOfLittle() {
        CommandLink x = Ask.quick();
        x.send(9999);
        x.past(0);
        x.tick(3);
        DUE.is("19 the first of ORDER", 9999, x.receiver(100));
        DUE.is("19 no second of ORDER", -2, x.receiver(101));
        DUE.is("19 the first of PAST", 0, x.receiver(200));
        DUE.is("19 no second of PAST", -2, x.receiver(201));
    }

    /** "NONE - 1 for another what". */
    private static void otherWhatsOfTheReceiver() {
        for (int what : new int[] {-1, 8, -2, 9, 99, 102, 199, 201, 299, 300, MIN, MAX}) {
            REFUSED.number("19 what " + what, -2, x -> x.receiver(what));
        }
    }

    /** So many were taken in in order, 1000 the first, and all are TAKEN. */
    private static CommandLink withOrder(int many) {
        CommandLink x = Ask.quick();
        x.set(1, 8);
        x.set(10, 1);
        x.set(7, 1);
        for (int sent = 0; sent < many; ) {
            for (int v = 0; v < 8 && sent < many; v++) {
                x.send(1000 + sent);
                sent++;
            }
            x.tick(11);
            for (int v = 0; v < 8; v++) {
                x.take();
            }
        }
        return x;
    }

    /** "100 of each kept"; "6 ORDER, 7 PAST (how many ever), 100 + i .. (from the first on, 100 at most)". */
    private static void hundredOfOrder() {
        for (int many : new int[] {99, 100, 101, 104}) {
            CommandLink x = withOrder(many);
            DUE.is("19 ORDER, how many ever", many, x.receiver(6));
            DUE.is("19 the first of " + many, 1000, x.receiver(100));
            DUE.is("19 the 99th of " + many, 1098, x.receiver(198));
            DUE.is("19 the 100th of " + many, many == 99 ? -2 : 1099, x.receiver(199));
            DUE.is("19 the 101st of " + many + " is none of PAST", -2, x.receiver(200));
            x.send(9);
            x.tick(2);
            DUE.is("19 the next is taken in as ever", 9, x.take());
            DUE.is("19 and counted", many + 1, x.receiver(6));
            DUE.is("19 NEXT, too", many + 1, x.receiver(0));
            DUE.is("19 the 100th then", many == 99 ? 9 : 1099, x.receiver(199));
        }
    }

    private static CommandLink withPast(int many) {
        CommandLink x = new CommandLink();
        x.set(6, 1);
        for (int v = 0; v < many; ) {
            for (int i = 0; i < 4 && v < many; i++) {
                x.past(2000 + v);
                v++;
            }
            x.tick(5);
        }
        return x;
    }

    private static void hundredOfPast() {
        for (int many : new int[] {99, 100, 101, 104}) {
            CommandLink x = withPast(many);
            DUE.is("19 PAST, how many ever", many, x.receiver(7));
            DUE.is("19 the first of PAST, of " + many, 2000, x.receiver(200));
            DUE.is("19 the 99th of PAST, of " + many, 2098, x.receiver(298));
            DUE.is("19 the 100th of PAST, of " + many, many == 99 ? -2 : 2099, x.receiver(299));
            DUE.is("19 the 101st of PAST, of " + many, -2, x.receiver(300));
            DUE.is("19 none in ORDER, of " + many, -2, x.receiver(199));
            DUE.is("19 COUNT of " + many, many % 4, x.receiver(4));
        }
    }

    /** "COUNT (0; modulo 4)". */
    private static void countGoesRound() {
        int[][] frames = {{1, 0, 0, 5}, {2, 0, 0, 0}, {2, 0, 1, 9}};
        for (int[] f : frames) {
            CommandLink x = Ask.quick();
            for (int i = 1; i <= 9; i++) {
                Ask.comes(x, f[0], f[1], f[2], f[3]);
                DUE.is("19 COUNT, KIND " + f[0] + ", HIGH " + f[2], i % 4, x.receiver(4));
            }
        }
        CommandLink x = Ask.quick();
        Ask.comes(x, 0, 0, 0, 5);
        Ask.comes(x, 0, 4, 0, 5);
        DUE.is("19 KIND 0 does not count", 0, x.receiver(4));
    }

    /** A receiver whose NEXT is this. */
    private static CommandLink nextIs(int next, int window) {
        CommandLink x = Ask.quick();
        x.set(0, window);
        Ask.comes(x, 2, 0, 1, next);
        DUE.is("19 NEXT is set", next, x.receiver(0));
        return x;
    }

    private static void nextGoesRound() {
        CommandLink x = nextIs(255, 10);
        Ask.comes(x, 0, 255, 0, 5);
        DUE.is("19 NEXT behind 255", 0, x.receiver(0));
        Ask.comes(x, 0, 0, 0, 6);
        DUE.is("19 NEXT behind 0", 1, x.receiver(0));
        DUE.is("19 both were taken in", 2, x.receiver(6));
    }

    /** "is there room (fewer than ROOM lie there): it is taken in .. RESEND 0; else thrown away, RESEND, WAITS 1". */
    private static void roomToTheLast() {
        for (int room : new int[] {0, 1, 3, 8}) {
            CommandLink x = Ask.quick();
            x.set(1, room);
            for (int n = 0; n < room; n++) {
                Ask.comes(x, 0, n, 0, n);
                DUE.is("19 ROOM " + room + ": " + n + " lay there", "OPEN " + (n + 1), Ask.text(x, 2));
            }
            DUE.is("19 ROOM " + room + ": so many lie there", room, x.receiver(5));
            Ask.comes(x, 0, room, 0, 99);
            DUE.is("19 ROOM " + room + ": no more", "WAIT " + room + "R", Ask.text(x, 2));
            DUE.is("19 ROOM " + room + ": it is thrown away", 1, x.look(16));
            DUE.is("19 ROOM " + room + ": none is lost of these", room, x.receiver(5));
        }
    }

    /** "far 0: WAITS: thrown away". */
    private static void waitsThoughThereIsRoom() {
        CommandLink x = Ask.quick();
        x.set(1, 0);
        Ask.comes(x, 0, 0, 0, 5);
        x.set(1, 8);
        Ask.comes(x, 0, 0, 0, 5);
        DUE.is("19 it WAITS: thrown away", "WAIT 0R", Ask.text(x, 2));
        DUE.is("19 both are counted", 2, x.look(16));
        Ask.comes(x, 0, 4, 0, 5);
        DUE.is("19 one ahead changes nothing when it WAITS", "WAIT 0R", Ask.text(x, 2));
        Ask.comes(x, 0, 251, 0, 5);
        DUE.is("19 nor does one behind", "WAIT 0R", Ask.text(x, 2));
        Ask.comes(x, 0, 5, 0, 5);
        DUE.is("19 but one outside does", "LOCKED 0R", Ask.text(x, 2));
        DUE.is("19 it WAITS still", 1, x.receiver(2));
    }

    private static String behindOne(int next, int window, int n) {
        CommandLink x = nextIs(next, window);
        Ask.comes(x, 0, n & 255, 0, 5);
        DUE.is("19 thrown away or taken in", n == next ? 0 : 1, x.look(16));
        return Ask.text(x, 2).substring(0, 4) + (x.receiver(3) == 1 ? "R" : "");
    }

    /** "far 1 .. W by 2, less 1: thrown away; does it not WAIT: RESEND 1". */
    private static void aheadToTheLast() {
        for (int next : new int[] {0, 100, 250, 255}) {
            DUE.is("19 W 10, far 1", "OPENR", behindOne(next, 10, next + 1));
            DUE.is("19 W 10, far 4", "OPENR", behindOne(next, 10, next + 4));
            DUE.is("19 W 10, far 5", "LOCK", behindOne(next, 10, next + 5));
            DUE.is("19 W 200, far 99", "OPENR", behindOne(next, 200, next + 99));
            DUE.is("19 W 200, far 100", "LOCK", behindOne(next, 200, next + 100));
        }
    }

    /** "far 256 less W by 2 .. 255: thrown away". */
    private static void behindToTheLast() {
        for (int next : new int[] {0, 3, 100, 255}) {
            DUE.is("19 W 10, far 255", "OPEN", behindOne(next, 10, next + 255));
            DUE.is("19 W 10, far 251", "OPEN", behindOne(next, 10, next + 251));
            DUE.is("19 W 10, far 250", "LOCK", behindOne(next, 10, next + 250));
            DUE.is("19 W 200, far 156", "OPEN", behindOne(next, 200, next + 156));
            DUE.is("19 W 200, far 155", "LOCK", behindOne(next, 200, next + 155));
        }
    }

    /** "Else: thrown away, LOCKED 1". */
    private static void outsideOnEitherSide() {
        CommandLink x = Ask.quick();
        Ask.comes(x, 0, 3, 0, 5);
        Ask.comes(x, 0, 128, 0, 5);
        DUE.is("19 RESEND stays when it shuts itself", "LOCKED 0R", Ask.text(x, 2));
        DUE.is("19 COUNT stays", 0, x.receiver(4));
        DUE.is("19 NEXT stays", 0, x.receiver(0));
        DUE.is("19 both are thrown away", 2, x.look(16));
    }

    /** W 2: none ahead, one behind. */
    private static void smallestWindow() {
        DUE.is("19 W 2, far 0", "OPEN", behindOne(7, 2, 7));
        DUE.is("19 W 2, far 1", "LOCK", behindOne(7, 2, 8));
        DUE.is("19 W 2, far 255", "OPEN", behindOne(7, 2, 6));
        DUE.is("19 W 2, far 254", "LOCK", behindOne(7, 2, 5));
        DUE.is("19 W 4, far 1", "OPENR", behindOne(7, 4, 8));
        DUE.is("19 W 4, far 2", "LOCK", behindOne(7, 4, 9));
        DUE.is("19 W 4, far 254", "OPEN", behindOne(7, 4, 5));
        DUE.is("19 W 4, far 253", "LOCK", behindOne(7, 4, 4));
    }

    /** "KIND 0: LOCKED: thrown away." */
    private static void lockedThrowsAway() {
        int thrown = 1;
        CommandLink x = Ask.quick();
        Ask.comes(x, 0, 128, 0, 5);
        for (int n : new int[] {0, 1, 4, 5, 250, 251, 255}) {
            Ask.comes(x, 0, n, 0, 5);
            thrown++;
            DUE.is("19 LOCKED, N " + n, "LOCKED 0", Ask.text(x, 2));
            DUE.is("19 LOCKED, N " + n + " is thrown away", thrown, x.look(16));
        }
        DUE.is("19 none was taken in", 0, x.receiver(6));
    }

    /** "KIND 1: PAST; COUNT one more." */
    private static void pastTheOrderAlways() {
        CommandLink x = Ask.quick();
        x.set(1, 0);
        Ask.comes(x, 0, 0, 0, 5);
        Ask.comes(x, 1, 0, 0, 6);
        DUE.is("19 it WAITS: past the order comes", 1, x.receiver(7));
        DUE.is("19 and changes nothing else", "WAIT 0R", Ask.text(x, 2));
        Ask.comes(x, 0, 128, 0, 5);
        Ask.comes(x, 1, 0, 0, 7);
        DUE.is("19 LOCKED: past the order comes", 2, x.receiver(7));
        DUE.is("19 and changes nothing else, too", "LOCKED 0R", Ask.text(x, 2));
        DUE.is("19 COUNT", 2, x.receiver(4));
    }

    /** "unlock: COUNT one more, LOCKED, WAITS, RESEND 0". */
    private static void unlockInEachState() {
        CommandLink open = Ask.quick();
        Ask.comes(open, 0, 4, 0, 5);
        Ask.comes(open, 2, 0, 0, 0);
        DUE.is("19 an unlock when it is OPEN", "OPEN 0", Ask.text(open, 2));
        DUE.is("19 COUNT 1", 1, open.receiver(4));
        CommandLink all = Ask.quick();
        all.set(1, 0);
        Ask.comes(all, 2, 0, 1, 77);
        Ask.comes(all, 0, 77, 0, 5);
        Ask.comes(all, 0, 200, 0, 5);
        DUE.is("19 LOCKED, WAITS, RESEND", 3, all.receiver(1) + all.receiver(2) + all.receiver(3));
        Ask.comes(all, 2, 0, 0, 0);
        DUE.is("19 none of them then", 0, all.receiver(1) + all.receiver(2) + all.receiver(3));
        DUE.is("19 NEXT stays", 77, all.receiver(0));
        DUE.is("19 COUNT 2", 2, all.receiver(4));
    }

    /** "Set: COUNT one more; is it not LOCKED: WAITS, RESEND 0, NEXT is the number". */
    private static void setInEachState() {
        for (int n : new int[] {0, 1, 254, 255}) {
            CommandLink x = Ask.quick();
            x.set(1, 0);
            Ask.comes(x, 0, 0, 0, 5);
            DUE.is("19 it WAITS", "WAIT 0R", Ask.text(x, 2));
            Ask.comes(x, 2, 0, 1, n);
            DUE.is("19 set " + n, "OPEN " + n, Ask.text(x, 2));
            DUE.is("19 COUNT 1", 1, x.receiver(4));
            CommandLink shut = Ask.quick();
            Ask.comes(shut, 0, 4, 0, 5);
            Ask.comes(shut, 0, 128, 0, 5);
            Ask.comes(shut, 2, 0, 1, n);
            DUE.is("19 set " + n + " when LOCKED", "LOCKED 0R", Ask.text(shut, 2));
            DUE.is("19 COUNT 1, too", 1, shut.receiver(4));
            DUE.is("19 it is not thrown away", 2, shut.look(16));
        }
    }

    /** "A FRAME that is not good is thrown away." */
    private static void notGoodChangesNothing() {
        CommandLink x = Ask.quick();
        x.send(5);
        x.tick(2);
        Ask.comesWith(x, 0, 1, 0, 6, 0);
        Ask.comesWith(x, 0, 128, 0, 6, 0);
        Ask.comesWith(x, 1, 0, 0, 6, 0);
        Ask.comesWith(x, 2, 0, 1, 9, 0);
        DUE.is("19 nothing by those that are not good", "OPEN 1", Ask.text(x, 2));
        DUE.is("19 ORDER", 1, x.receiver(6));
        DUE.is("19 PAST", 0, x.receiver(7));
        DUE.is("19 COUNT", 0, x.receiver(4));
        DUE.is("19 all four are thrown away", 4, x.look(16));
    }
}
