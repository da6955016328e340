import java.util.function.Supplier;

/** The edges that the document names in promises 4 (send), 5 (past), 6 (start), 7 (direct), 8 (renumber). */
public final class EdgesOf4To8Test {
    private static final Due DUE = new Due("EdgesOf4To8Test", 4, 8);
    private static final Refused REFUSED = new Refused(DUE);
    private static final int MIN = Integer.MIN_VALUE;
    private static final int MAX = Integer.MAX_VALUE;

    public static void main(String[] args) {
        commandsThatCanBeSent();
        commandsThatCantBeSent();
        machinesThatSend();
        lineOfEight();
        lineHasRoomAgain();
        commandsThatCanPass();
        commandsThatCantPass();
        passingOfFour();
        passingInEachMachine();
        passingStaysBehindAlarmAndStart();
        howsThatCanBe();
        howsThatCantBe();
        numbersOfASet();
        numberIsNotAskedElse();
        startInMachine6Alone();
        startWhenHeld();
        startEmptiesAll();
        stopInEachMachine();
        stopWhenHeld();
        nothingToStop();
        goOnWhenHeldAlone();
        goOnInEachMachine();
        otherDirectives();
        numbersThatCanBe();
        numbersThatCantBe();
        renumberInMachine6Alone();
        DUE.end();
    }

    /** "the command 0 .. 9999: 256 HIGH and LOW". */
    private static void commandsThatCanBeSent() {
        int[] commands = {0, 1, 255, 256, 9998, 9999};
        String[] frames = {"0 0 0 0 85", "0 1 0 1 87", "0 2 0 255 86", "0 3 1 0 89", "0 4 39 14 142", "0 5 39 15 144"};
        CommandLink x = new CommandLink();
        x.set(2, 20);
        x.set(6, 40);
        x.start(0, 0);
        for (int i = 0; i < commands.length; i++) {
            DUE.is("4 " + commands[i] + " can be", 1, x.send(commands[i]));
            x.tick(1);
            DUE.is("4 the FRAME of " + commands[i], frames[i], Ask.bytes(x, true, i));
            DUE.is("4 the LEDGER has " + commands[i], commands[i], x.ledger(i, 0));
        }
    }

    private static void commandsThatCantBeSent() {
        for (int v : new int[] {-1, 10000, -2, 10001, 65536, MIN, MAX}) {
            REFUSED.none("4 " + v + " can't be", x -> x.send(v));
        }
    }

    /** "A command to be sent: MACHINE 1 .. 3". */
    private static void machinesThatSend() {
        for (int m = 1; m <= 3; m++) {
            CommandLink x = Scenes.in(m);
            DUE.is("4 the scene is MACHINE " + m, m, x.sender(0));
            int line = x.sender(3);
            int inAll = x.truth(4);
            DUE.is("4 MACHINE " + m, line + 1, x.send(5));
            DUE.is("4 it lies in LINE", line + 1, x.sender(3));
            DUE.is("4 it is counted", inAll + 1, x.truth(4));
            DUE.is("4 it has a line", inAll + 1, x.ledger(-1, 0));
        }
        for (int m = 4; m <= 6; m++) {
            int machine = m;
            DUE.is("4 the scene is MACHINE " + m, m, Scenes.in(m).sender(0));
            REFUSED.noneIn("4 not in MACHINE " + m, () -> Scenes.in(machine), x -> x.send(5));
        }
        REFUSED.noneIn("4 not with an unlock", Scenes::unlocking, x -> x.send(5));
        for (int m = 1; m <= 5; m++) {
            int machine = m;
            DUE.is("4 the scene is HELD " + m, m, Scenes.held(m).sender(9));
            REFUSED.noneIn("4 not when HELD " + m, () -> Scenes.held(machine), x -> x.send(5));
        }
        REFUSED.noneIn("4 not on a new object", CommandLink::new, x -> x.send(0));
    }

    private static CommandLink withLine(int many) {
        CommandLink x = new CommandLink();
        x.start(0, 0);
        for (int v = 1; v <= many; v++) {
            DUE.is("4 how many LINE has", v, x.send(v));
        }
        return x;
    }

    /** LINE: "8 at most". */
    private static void lineOfEight() {
        CommandLink x = withLine(7);
        DUE.is("4 the eighth can be", 8, x.send(8));
        DUE.is("4 LINE has eight", 8, x.sender(3));
        REFUSED.noneIn("4 the ninth can't be", () -> withLine(8), y -> y.send(9));
    }

    private static void lineHasRoomAgain() {
        CommandLink x = withLine(8);
        x.tick(1);
        DUE.is("4 one went: seven", 7, x.sender(3));
        DUE.is("4 the ninth then", 8, x.send(9));
        DUE.is("4 the tenth can't be", -1, x.send(10));
        x.tick(2);
        DUE.is("4 three SENT, six in LINE", 6, x.sender(3));
        DUE.is("4 the first of SENT is the first", 1, x.sender(100));
        x.tick(1);
        DUE.is("4 K is kept: six in LINE", 6, x.sender(3));
        CommandLink y = withLine(8);
        y.direct(0);
        y.start(0, 0);
        DUE.is("4 LINE is empty behind a STOP", 1, y.send(7));
    }

    private static void commandsThatCanPass() {
        int[] commands = {0, 255, 256, 9999};
        String[] frames = {"1 0 0 0 86", "1 0 0 255 85", "1 0 1 0 87", "1 0 39 15 140"};
        CommandLink x = new CommandLink();
        for (int i = 0; i < commands.length; i++) {
            DUE.is("5 " + commands[i] + " can be", i + 1, x.past(commands[i]));
        }
        x.set(6, 40);
        x.tick(4);
        for (int i = 0; i < commands.length; i++) {
            DUE.is("5 the FRAME of " + commands[i], frames[i], Ask.bytes(x, true, i));
        }
        DUE.is("5 the LEDGER has none of them", 0, x.ledger(-1, 0));
        DUE.is("5 nor does LINE", 0, x.truth(4));
    }

    private static void commandsThatCantPass() {
        for (int v : new int[] {-1, 10000, -2, 10001, 65536, MIN, MAX}) {
            REFUSED.none("5 " + v + " can't be", x -> x.past(v));
        }
    }

    private static CommandLink withPassing(int many) {
        CommandLink x = new CommandLink();
        for (int v = 1; v <= many; v++) {
            DUE.is("5 how many PASSING has", v, x.past(v));
        }
        return x;
    }

    /** PASSING: "4 at most". */
    private static void passingOfFour() {
        CommandLink x = withPassing(3);
        DUE.is("5 the fourth can be", 4, x.past(4));
        DUE.is("5 PASSING has four", 4, x.sender(6));
        REFUSED.noneIn("5 the fifth can't be", () -> withPassing(4), y -> y.past(5));
        x.tick(1);
        DUE.is("5 one went", 3, x.sender(6));
        DUE.is("5 the fifth then", 4, x.past(5));
        x.tick(4);
        DUE.is("5 one each TICK: all went", 0, x.sender(6));
        x.tick(3);
        DUE.is("5 the first first", 1, x.receiver(200));
        DUE.is("5 the fifth last", 5, x.receiver(204));
    }

    /** "One past the order: PASSING not full (always)." */
    private static void passingInEachMachine() {
        for (int m = 1; m <= 6; m++) {
            DUE.is("5 in MACHINE " + m, 3, Scenes.in(m).past(0));
        }
        for (int m = 1; m <= 5; m++) {
            CommandLink x = Scenes.held(m);
            DUE.is("5 when HELD " + m, 3, x.past(0));
            x.tick(3);
            DUE.is("5 and they go when HELD " + m, 0, x.sender(6));
        }
    }

    private static void passingStaysBehindAlarmAndStart() {
        CommandLink x = new CommandLink();
        x.start(0, 0);
        x.past(1);
        x.past(2);
        x.direct(0);
        DUE.is("5 PASSING stays behind an ALARM", 2, x.sender(6));
        x.start(1, 0);
        DUE.is("5 PASSING stays behind a START", 2, x.sender(6));
    }

    /** "START how 0 .. 3". */
    private static void howsThatCanBe() {
        int[] machine = {1, 4, 5, 5};
        int[] timer = {0, 12, 12, 12};
        int[] directive = {-1, -1, 0, 1};
        for (int how = 0; how <= 3; how++) {
            CommandLink x = new CommandLink();
            x.renumber(7);
            DUE.is("6 how " + how + " can be", true, x.start(how, 200));
            DUE.is("6 how " + how + ": MACHINE", machine[how], x.sender(0));
            DUE.is("6 how " + how + ": NUMBER", how == 3 ? 200 : 7, x.sender(1));
            DUE.is("6 how " + how + ": SEEN", how == 3 ? 200 : 7, x.sender(2));
            DUE.is("6 how " + how + ": TRIES", 1, x.sender(7));
            DUE.is("6 how " + how + ": TIMER", timer[how], x.sender(8));
            DUE.is("6 how " + how + ": HELD", 0, x.sender(9));
            DUE.is("6 how " + how + ": DIRECTIVE", directive[how], x.sender(10));
            DUE.is("6 how " + how + ": THE DIARY", "0:6>" + machine[how], Ask.diary(x));
        }
    }

    private static void howsThatCantBe() {
        for (int how : new int[] {-1, 4, -2, 5, MIN, MAX}) {
            REFUSED.no("6 how " + how + " can't be", x -> x.start(how, 0));
        }
    }

    /** "3 with a number": 0 .. 255. */
    private static void numbersOfASet() {
        String[] frames = {"2 0 1 0 88", "2 0 1 1 89", "2 0 1 254 86", "2 0 1 255 87"};
        int[] numbers = {0, 1, 254, 255};
        for (int i = 0; i < numbers.length; i++) {
            CommandLink x = new CommandLink();
            x.renumber(9);
            DUE.is("6 a set of " + numbers[i] + " can be", true, x.start(3, numbers[i]));
            DUE.is("6 NUMBER is " + numbers[i], numbers[i], x.sender(1));
            DUE.is("6 SEEN is " + numbers[i], numbers[i], x.sender(2));
            x.tick(1);
            DUE.is("6 its FRAME", frames[i], Ask.bytes(x, true, 0));
        }
        for (int n : new int[] {-1, 256, -2, 257, MIN, MAX}) {
            REFUSED.no("6 a set of " + n + " can't be", x -> x.start(3, n));
        }
    }

    /** "(a number that is told isn't asked)". */
    private static void numberIsNotAskedElse() {
        for (int how = 0; how <= 2; how++) {
            for (int n : new int[] {-1, 256, MIN, MAX}) {
                CommandLink x = new CommandLink();
                x.renumber(255);
                DUE.is("6 how " + how + " with " + n, true, x.start(how, n));
                DUE.is("6 NUMBER stays", 255, x.sender(1));
                DUE.is("6 SEEN is NUMBER", 255, x.sender(2));
            }
        }
    }

    /** "START (MACHINE 6, HELD or not)". */
    private static void startInMachine6Alone() {
        for (int m = 1; m <= 5; m++) {
            int machine = m;
            for (int h = 0; h <= 3; h++) {
                int how = h;
                REFUSED.noIn("6 how " + how + " not in MACHINE " + m, () -> Scenes.in(machine), x -> x.start(how, 77));
            }
        }
        for (int h = 0; h <= 3; h++) {
            int how = h;
            REFUSED.noIn("6 how " + how + " not with an unlock", Scenes::unlocking, x -> x.start(how, 77));
        }
    }

    private static void startWhenHeld() {
        for (int m = 1; m <= 5; m++) {
            for (int how = 0; how <= 3; how++) {
                CommandLink x = Scenes.held(m);
                int number = how == 3 ? 77 : x.sender(1);
                DUE.is("6 how " + how + " when HELD " + m, true, x.start(how, 77));
                DUE.is("6 HELD 0", 0, x.sender(9));
                DUE.is("6 LINE empty", 0, x.sender(3));
                DUE.is("6 SENT empty", 0, x.sender(4));
                DUE.is("6 NUMBER", number, x.sender(1));
                DUE.is("6 SEEN is NUMBER", number, x.sender(2));
                DUE.is("6 TRIES 1", 1, x.sender(7));
                DUE.is("6 DIRECTIVE", how < 2 ? -1 : how - 2, x.sender(10));
                DUE.is("6 no ALARM but the one ahead", 1, x.alarm(-1));
            }
        }
    }

    /** "for each: LINE, SENT empty": they are gone by a START. */
    private static void startEmptiesAll() {
        for (int how = 0; how <= 3; how++) {
            CommandLink x = Scenes.held(1);
            DUE.is("6 SENT ahead of it", 2, x.sender(4));
            DUE.is("6 LINE ahead of it", 1, x.sender(3));
            x.start(how, 5);
            for (int i = 2; i <= 4; i++) {
                DUE.is("6 line " + i + " is gone by the START", 3, x.ledger(i, 6));
            }
            DUE.is("6 a line gone by a REPORT stays so", 2, x.ledger(0, 6));
        }
    }

    private static void isStopped(String text, CommandLink x, int number, int tries) {
        DUE.is(text, true, x.direct(0));
        DUE.is(text + ": MACHINE", 6, x.sender(0));
        DUE.is(text + ": NUMBER stays", number, x.sender(1));
        DUE.is(text + ": LINE", 0, x.sender(3));
        DUE.is(text + ": SENT", 0, x.sender(4));
        DUE.is(text + ": MARKED", 0, x.sender(5));
        DUE.is(text + ": PASSING stays", 2, x.sender(6));
        DUE.is(text + ": TRIES stay", tries, x.sender(7));
        DUE.is(text + ": TIMER", 0, x.sender(8));
        DUE.is(text + ": HELD", 0, x.sender(9));
        DUE.is(text + ": DIRECTIVE", -1, x.sender(10));
        DUE.is(text + ": ALARMS", 2, x.alarm(-1));
        DUE.is(text + ": ALARM 6", 6, x.alarm(1));
        DUE.is(text + ": not twice", false, x.direct(0));
        DUE.is(text + ": no ALARM by that", 2, x.alarm(-1));
    }

    /** "STOP (MACHINE not 6, or HELD): ALARM 6." */
    private static void stopInEachMachine() {
        for (int m = 1; m <= 5; m++) {
            CommandLink x = Scenes.in(m);
            int changes = x.diary(-1, 0);
            isStopped("7 STOP in MACHINE " + m, x, x.sender(1), x.sender(7));
            DUE.is("7 one line in THE DIARY", changes + 1, x.diary(-1, 0));
            DUE.is("7 from " + m, m, x.diary(changes, 1));
        }
    }

    private static void stopWhenHeld() {
        for (int m = 1; m <= 5; m++) {
            CommandLink x = Scenes.held(m);
            int changes = x.diary(-1, 0);
            isStopped("7 STOP when HELD " + m, x, x.sender(1), x.sender(7));
            DUE.is("7 MACHINE was 6: no line in THE DIARY", changes, x.diary(-1, 0));
        }
    }

    private static void nothingToStop() {
        REFUSED.noIn("7 STOP in MACHINE 6", () -> Scenes.in(6), x -> x.direct(0));
        REFUSED.noIn("7 STOP on a new object", CommandLink::new, x -> x.direct(0));
    }

    /** "GO ON (HELD)". */
    private static void goOnWhenHeldAlone() {
        for (int m = 1; m <= 6; m++) {
            int machine = m;
            REFUSED.noIn("7 GO ON in MACHINE " + m, () -> Scenes.in(machine), x -> x.direct(1));
        }
        REFUSED.noIn("7 GO ON with an unlock", Scenes::unlocking, x -> x.direct(1));
        REFUSED.noIn("7 GO ON on a new object", CommandLink::new, x -> x.direct(1));
        for (int m = 1; m <= 5; m++) {
            CommandLink x = Scenes.held(m);
            x.direct(1);
            DUE.is("7 GO ON a second time", false, x.direct(1));
            CommandLink y = Scenes.held(m);
            y.direct(0);
            DUE.is("7 GO ON behind STOP", false, y.direct(1));
        }
    }

    /** "MACHINE is HELD .. 1 .. 3: then MACHINE 2 .. 4: TIMER PATIENCE; 5: TRIES 0, then MARK all". */
    private static void goOnInEachMachine() {
        String[] changes = {"", "6>1 1>2", "6>2", "6>3 3>2", "6>4", "6>5"};
        int[] machine = {0, 2, 2, 2, 4, 5};
        for (int m = 1; m <= 5; m++) {
            CommandLink x = Scenes.held(m);
            int tick = x.look(0);
            String before = Ask.diary(x);
            int line = x.sender(3);
            int sent = x.sender(4);
            DUE.is("7 TIMER 0 when HELD " + m, 0, x.sender(8));
            DUE.is("7 GO ON when HELD " + m, true, x.direct(1));
            DUE.is("7 MACHINE behind HELD " + m, machine[m], x.sender(0));
            DUE.is("7 HELD 0 behind " + m, 0, x.sender(9));
            DUE.is("7 TRIES behind HELD " + m, 1, x.sender(7));
            DUE.is("7 TIMER behind HELD " + m, 3, x.sender(8));
            DUE.is("7 LINE stays behind HELD " + m, line, x.sender(3));
            DUE.is("7 SENT stays behind HELD " + m, sent, x.sender(4));
            DUE.is("7 all are MARKED behind HELD " + m, sent, x.sender(5));
            DUE.is("7 DIRECTIVE behind HELD " + m, m == 5 ? 1 : -1, x.sender(10));
            String want = before + " " + changes[m].replaceAll("(\\d>\\d)", tick + ":$1");
            DUE.is("7 THE DIARY behind HELD " + m, want, Ask.diary(x));
        }
        CommandLink x = Scenes.held(5);
        x.tick(2);
        DUE.is("7 PASSING is empty", 0, x.sender(6));
        int went = x.look(13);
        x.tick(1);
        DUE.is("7 HELD: the DIRECTIVE does not go", went, x.look(13));
        x.direct(1);
        x.tick(1);
        DUE.is("7 it is MARKED: it goes", went + 1, x.look(13));
    }

    /** "or another what". */
    private static void otherDirectives() {
        for (int what : new int[] {-1, 2, -2, 3, MIN, MAX}) {
            REFUSED.no("7 what " + what, x -> x.direct(what));
        }
    }

    /** "RENUMBER .. NUMBER and SEEN are that number": 0 .. 255. */
    private static void numbersThatCanBe() {
        for (int n : new int[] {0, 1, 254, 255}) {
            CommandLink x = Scenes.in(6);
            DUE.is("8 " + n + " can be", true, x.renumber(n));
            DUE.is("8 NUMBER " + n, n, x.sender(1));
            DUE.is("8 SEEN " + n, n, x.sender(2));
            DUE.is("8 MACHINE stays", 6, x.sender(0));
            x.start(0, 0);
            x.send(5);
            x.tick(3);
            DUE.is("8 the FRAME has it", n, x.sender(200));
            DUE.is("8 the next goes round", (n + 1) % 256, x.sender(1));
        }
    }

    private static void numbersThatCantBe() {
        for (int n : new int[] {-1, 256, -2, 257, MIN, MAX}) {
            REFUSED.no("8 " + n + " can't be", x -> x.renumber(n));
        }
    }

    /** "RENUMBER (MACHINE 6, not HELD)". */
    private static void renumberInMachine6Alone() {
        for (int m = 1; m <= 5; m++) {
            int machine = m;
            Supplier<CommandLink> running = () -> Scenes.in(machine);
            Supplier<CommandLink> held = () -> Scenes.held(machine);
            REFUSED.noIn("8 not in MACHINE " + m, running, x -> x.renumber(5));
            REFUSED.noIn("8 not when HELD " + m, held, x -> x.renumber(5));
            CommandLink x = Scenes.held(m);
            x.direct(0);
            DUE.is("8 behind STOP when HELD " + m, true, x.renumber(5));
        }
        REFUSED.noIn("8 not with an unlock", Scenes::unlocking, x -> x.renumber(5));
    }
}
