/** The edges that the document names in promises 20 (way), 21 (alarm), 22 (told). */
public final class EdgesOf20To22Test {
    private static final Due DUE = new Due("EdgesOf20To22Test", 20, 22);
    private static final Refused REFUSED = new Refused(DUE);
    private static final int MIN = Integer.MIN_VALUE;
    private static final int MAX = Integer.MAX_VALUE;
    private static final int LOCKED = 1;
    private static final int WAITS = 2;
    private static final int RESEND = 4;

    public static void main(String[] args) {
        whichIsOnItsWay();
        noneSuchOnItsWay();
        howManyWhateverK();
        fortyOnTheirWay();
        bytesOfFrames();
        bytesOfReports();
        ticksAtWhichTheyCome();
        alarmsFromNoneOn();
        sixtyKept();
        noneSuchAlarm();
        whatAnAlarmEmpties();
        numberFromSeenToNumber();
        numberWhenNoneIsSent();
        numberInMachine4And5();
        lockedInEachMachine();
        lockedIsAskedFirst();
        reportsInMachine6();
        reportsThatAreNotGood();
        textsThatAre();
        textsThatAreNone();
        signsOfATextAndBeyond();
        textOfTheReport();
        textOfTheSender();
        textOfTheReceiver();
        textOfTheAlarm();
        DUE.end();
    }

    /** Three FRAMES and three REPORTS on their way. */
    private static CommandLink threeEach() {
        CommandLink x = new CommandLink();
        x.set(6, 40);
        x.set(7, 40);
        x.set(10, 1);
        x.past(1);
        x.past(300);
        x.past(9999);
        x.tick(3);
        return x;
    }

    /** "Of the i-th FRAME (up true), REPORT on its way: byte k; k NONE: at which TICK it comes; i NONE: how many." */
    private static void whichIsOnItsWay() {
        CommandLink x = threeEach();
        int[][] frames = {{1, 0, 0, 1, 87}, {1, 0, 1, 44, 131}, {1, 0, 39, 15, 140}};
        for (int i = 0; i < 3; i++) {
            for (int k = 0; k < 5; k++) {
                DUE.is("20 byte " + k + " of FRAME " + i, frames[i][k], x.way(true, i, k));
            }
            DUE.is("20 the TICK of FRAME " + i, 41 + i, x.way(true, i, -1));
            DUE.is("20 FLAGS of REPORT " + i, 0, x.way(false, i, 0));
            DUE.is("20 N of REPORT " + i, 0, x.way(false, i, 1));
            DUE.is("20 CHECK of REPORT " + i, 85, x.way(false, i, 2));
            DUE.is("20 the TICK of REPORT " + i, 41 + i, x.way(false, i, -1));
        }
    }

    /** "NONE if there is none such." */
    private static void noneSuchOnItsWay() {
        for (boolean up : new boolean[] {true, false}) {
            for (int i : new int[] {3, -2, 4, 40, 48, MIN, MAX}) {
                for (int k : new int[] {-1, 0, 2}) {
                    REFUSED.noneIn("20 number " + i + " of three", EdgesOf20To22Test::threeEach, x -> x.way(up, i, k));
                }
            }
            for (int k : new int[] {up ? 5 : 3, -2, up ? 6 : 4, 240, MIN, MAX}) {
                for (int i = 0; i < 3; i++) {
                    int at = i;
                    REFUSED.noneIn("20 byte " + k, EdgesOf20To22Test::threeEach, x -> x.way(up, at, k));
                }
            }
            REFUSED.noneIn("20 none on its way", CommandLink::new, x -> x.way(up, 0, 0));
            REFUSED.noneIn("20 none on its way, no TICK", CommandLink::new, x -> x.way(up, 0, -1));
        }
    }

    private static void howManyWhateverK() {
        for (int k : new int[] {-1, 0, 4, 5, -2, MIN, MAX}) {
            DUE.is("20 how many FRAMES, k " + k, 3, threeEach().way(true, -1, k));
            DUE.is("20 how many REPORTS, k " + k, 3, threeEach().way(false, -1, k));
            DUE.is("20 how many of none, k " + k, 0, new CommandLink().way(true, -1, k));
        }
    }

    /** One each TICK, 40 TICKS at most: forty are the most that can be. */
    private static void fortyOnTheirWay() {
        CommandLink x = new CommandLink();
        x.set(6, 40);
        x.set(7, 40);
        x.set(10, 1);
        for (int t = 1; t <= 40; t++) {
            x.past(t);
            x.tick(1);
        }
        DUE.is("20 forty FRAMES", 40, x.way(true, -1, 0));
        DUE.is("20 forty REPORTS", 40, x.way(false, -1, 0));
        DUE.is("20 the fortieth FRAME", 40, x.way(true, 39, 3));
        DUE.is("20 its TICK", 80, x.way(true, 39, -1));
        DUE.is("20 the fortieth REPORT", 80, x.way(false, 39, -1));
        DUE.is("20 no 41st FRAME", -1, x.way(true, 40, 0));
        DUE.is("20 no 41st REPORT", -1, x.way(false, 40, 0));
        x.past(41);
        x.tick(1);
        DUE.is("20 one came, one went", 40, x.way(true, -1, 0));
        DUE.is("20 the 41st is the last", 41, x.way(true, 39, 3));
        DUE.is("20 one came of the REPORTS, too", 40, x.way(false, -1, 0));
        x.tick(40);
        DUE.is("20 all came", 0, x.way(true, -1, 0));
        DUE.is("20 41 came", 41, x.receiver(7));
    }

    /** "CHECK: the four ahead and 85, together modulo 256". */
    private static void bytesOfFrames() {
        CommandLink x = new CommandLink();
        x.set(6, 40);
        x.renumber(170);
        x.start(0, 0);
        x.send(0);
        x.send(1);
        x.tick(2);
        DUE.is("20 together 255", "0 170 0 0 255", Ask.bytes(x, true, 0));
        DUE.is("20 together 257", "0 171 0 1 1", Ask.bytes(x, true, 1));
        CommandLink y = new CommandLink();
        y.renumber(171);
        y.start(0, 0);
        y.send(0);
        y.tick(1);
        DUE.is("20 together 256", "0 171 0 0 0", Ask.bytes(y, true, 0));
    }

    /** "FLAGS (1 LOCKED, 2 WAITS, 4 RESEND; 8 times COUNT, 0 .. 3), N (NEXT of the receiver), CHECK". */
    private static void bytesOfReports() {
        CommandLink x = Ask.quick();
        x.set(1, 0);
        x.set(7, 40);
        int[] flags = new int[6];
        Ask.comes(x, 0, 1, 0, 5);
        flags[0] = reported(x);
        Ask.comes(x, 0, 0, 0, 5);
        flags[1] = reported(x);
        Ask.comes(x, 1, 0, 0, 5);
        flags[2] = reported(x);
        Ask.comes(x, 1, 0, 0, 5);
        Ask.comes(x, 1, 0, 0, 5);
        Ask.comes(x, 0, 128, 0, 5);
        flags[3] = reported(x);
        Ask.comes(x, 1, 0, 0, 5);
        flags[4] = reported(x);
        Ask.comes(x, 2, 0, 0, 0);
        flags[5] = reported(x);
        int[] want = {RESEND, RESEND + WAITS, RESEND + WAITS + 8, 31, 7, 8};
        for (int i = 0; i < want.length; i++) {
            DUE.is("20 FLAGS, case " + i, want[i], flags[i]);
        }
        CommandLink y = new CommandLink();
        y.set(7, 40);
        y.start(3, 171);
        y.tick(4);
        DUE.is("20 together 264", "8 171 8", Ask.bytes(y, false, 0));
    }

    /** FLAGS of the REPORT that goes at the next TICK. */
    private static int reported(CommandLink x) {
        x.set(10, 1);
        x.tick(1);
        x.set(10, 20);
        return x.way(false, x.way(false, -1, 0) - 1, 0);
    }

    /** "each comes UP TICKS, as told then, behind that at which it went". */
    private static void ticksAtWhichTheyCome() {
        CommandLink x = new CommandLink();
        int[] ups = {1, 40, 39, 3};
        for (int up : ups) {
            x.past(up);
        }
        for (int t = 0; t < 4; t++) {
            x.set(6, ups[t]);
            x.tick(1);
            int last = x.way(true, -1, 0) - 1;
            DUE.is("20 UP " + ups[t] + " at " + (t + 1), t + 1 + ups[t], x.way(true, last, -1));
        }
        CommandLink y = new CommandLink();
        y.set(10, 1);
        for (int down : new int[] {40, 1, 20}) {
            y.set(7, down);
            y.tick(1);
            int last = y.way(false, -1, 0) - 1;
            DUE.is("20 DOWN " + down, y.look(0) + down, y.way(false, last, -1));
        }
    }

    private static CommandLink withAlarms(int many) {
        CommandLink x = new CommandLink();
        for (int i = 0; i < many; i++) {
            x.start(0, 0);
            x.direct(0);
        }
        return x;
    }

    /** "The i-th ALARM (0 the first; 60 kept); i NONE: how many ever." */
    private static void alarmsFromNoneOn() {
        DUE.is("21 none", 0, new CommandLink().alarm(-1));
        CommandLink one = withAlarms(1);
        DUE.is("21 one", 1, one.alarm(-1));
        DUE.is("21 the first", 6, one.alarm(0));
        DUE.is("21 no second", -1, one.alarm(1));
    }

    private static void sixtyKept() {
        for (int many : new int[] {59, 60, 61, 70}) {
            CommandLink x = withAlarms(many - 1);
            x.set(4, 1);
            x.set(3, 1);
            x.start(1, 0);
            x.tick(1);
            DUE.is("21 how many ever", many, x.alarm(-1));
            DUE.is("21 number 58 of " + many, many == 59 ? 5 : 6, x.alarm(58));
            DUE.is("21 number 59 of " + many, many == 59 ? -1 : many == 60 ? 5 : 6, x.alarm(59));
            DUE.is("21 number 60 of " + many, -1, x.alarm(60));
            DUE.is("21 number 61 of " + many, -1, x.alarm(61));
            DUE.is("22 the latest of " + many, "LIMIT", Ask.text(x, 3));
        }
    }

    private static void noneSuchAlarm() {
        for (int i : new int[] {-2, 2, 3, 59, 60, 61, MIN, MAX}) {
            REFUSED.none("21 number " + i + " of one", x -> x.alarm(i));
        }
    }

    /** "ALARM a: MACHINE 6, LINE, SENT, DIRECTIVE empty, TIMER 0, HELD 0". */
    private static void whatAnAlarmEmpties() {
        CommandLink x = Ask.withReport(3, LOCKED, 0);
        x.set(2, 3);
        x.send(7);
        x.past(8);
        x.past(9);
        DUE.is("21 NUMBER ahead of it", 3, x.sender(1));
        x.tick(1);
        int[] want = {6, 3, 0, 0, 0, 0, 1, 1, 0, 0, -1};
        for (int what = 0; what < want.length; what++) {
            DUE.is("21 sender " + what + " behind ALARM 1", want[what], x.sender(what));
        }
        for (int i = 0; i < 4; i++) {
            DUE.is("21 line " + i + " is gone by it", 3, x.ledger(i, 6));
        }
        DUE.is("21 the FRAMES go on", 4, x.way(true, -1, 0));
    }

    private static int alarmBy(int first, int commands, int n) {
        CommandLink x = Ask.withReportFrom(first, commands, 0, n & 255);
        x.tick(1);
        return x.alarm(0);
    }

    /** "The number must lie from SEEN on up to NUMBER (as they go round ..); else ALARM 3". */
    private static void numberFromSeenToNumber() {
        for (int first : new int[] {0, 1, 100, 252, 253, 254, 255}) {
            String text = "21 SEEN " + first + ", NUMBER " + (first + 3) % 256 + ": ";
            DUE.is(text + "one ahead of SEEN", 3, alarmBy(first, 3, first - 1));
            DUE.is(text + "SEEN", -1, alarmBy(first, 3, first));
            DUE.is(text + "one behind SEEN", -1, alarmBy(first, 3, first + 1));
            DUE.is(text + "one ahead of NUMBER", -1, alarmBy(first, 3, first + 2));
            DUE.is(text + "NUMBER", -1, alarmBy(first, 3, first + 3));
            DUE.is(text + "one behind NUMBER", 3, alarmBy(first, 3, first + 4));
            DUE.is(text + "far away", 3, alarmBy(first, 3, first + 128));
        }
    }

    private static void numberWhenNoneIsSent() {
        for (int first : new int[] {0, 128, 255}) {
            DUE.is("21 none is SENT: NUMBER", -1, alarmBy(first, 0, first));
            DUE.is("21 none is SENT: one behind", 3, alarmBy(first, 0, first + 1));
            DUE.is("21 none is SENT: one ahead", 3, alarmBy(first, 0, first - 1));
        }
    }

    private static CommandLink started(int how, int number, int flags, int n) {
        CommandLink x = Ask.withReport(0, flags, n & 255);
        x.direct(0);
        x.renumber(number);
        x.start(how, number);
        x.tick(1);
        return x;
    }

    /** "(MACHINE 4, 5: nothing, in 5; ALARM 2 in 4)"; "N is NUMBER: MACHINE 1, TIMER 0; else ALARM 2". */
    private static void numberInMachine4And5() {
        for (int number : new int[] {0, 5, 255}) {
            DUE.is("21 4: NUMBER", 1, started(1, number, 0, number).sender(0));
            DUE.is("21 4: its TIMER", 0, started(1, number, 0, number).sender(8));
            for (int off : new int[] {-1, 1, 128}) {
                CommandLink x = started(1, number, 0, number + off);
                DUE.is("21 4: NUMBER and " + off, 2, x.alarm(1));
                DUE.is("21 4: MACHINE 6 by it", 6, x.sender(0));
                DUE.is("21 4: WAITS, NUMBER and " + off, 2, started(1, number, WAITS, number + off).alarm(1));
            }
            DUE.is("21 4: RESEND", 2, started(1, number, RESEND, number).alarm(1));
            DUE.is("21 4: RESEND and WAITS", 2, started(1, number, RESEND + WAITS, number).alarm(1));
            CommandLink waits = started(1, number, WAITS, number);
            DUE.is("21 4: WAITS is nothing", 4, waits.sender(0));
            DUE.is("21 4: its TIMER runs on", 98, waits.sender(8));
            for (int how = 2; how <= 3; how++) {
                DUE.is("21 5: NUMBER", 1, started(how, number, 24, number).sender(0));
                DUE.is("21 5: its TIMER", 0, started(how, number, 0, number).sender(8));
                DUE.is("21 5: no DIRECTIVE", -1, started(how, number, 0, number).sender(10));
                for (int off : new int[] {-1, 1, 128}) {
                    isNothingIn5("NUMBER and " + off, started(how, number, 0, number + off));
                }
                isNothingIn5("RESEND", started(how, number, RESEND, number));
                isNothingIn5("WAITS", started(how, number, WAITS, number));
                isNothingIn5("RESEND and WAITS", started(how, number, RESEND + WAITS, number));
            }
        }
    }

    private static void isNothingIn5(String text, CommandLink x) {
        DUE.is("21 5: " + text + ": MACHINE", 5, x.sender(0));
        DUE.is("21 5: " + text + ": no ALARM but STOP", 1, x.alarm(-1));
        DUE.is("21 5: " + text + ": TIMER", 98, x.sender(8));
        DUE.is("21 5: " + text + ": no VERDICT", 0, x.verdicts(0) + x.verdicts(3) + x.verdicts(7) + x.verdicts(8));
    }

    /** "LOCKED: MACHINE 5 with unlock: nothing; else ALARM 1." */
    private static void lockedInEachMachine() {
        for (int flags : new int[] {LOCKED, LOCKED + WAITS, LOCKED + RESEND, LOCKED + WAITS + RESEND, 31}) {
            for (int n : new int[] {5, 6, 255}) {
                DUE.is("21 LOCKED in 1", 1, started(0, 5, flags, n).alarm(1));
                DUE.is("21 LOCKED in 4", 1, started(1, 5, flags, n).alarm(1));
                isNothingIn5("LOCKED with an unlock", started(2, 5, flags, n));
                DUE.is("21 LOCKED in 5 with a set", 1, started(3, 5, flags, n).alarm(1));
                DUE.is("21 LOCKED in 5 with a set of 0", 1, started(3, 0, flags, n).alarm(1));
            }
        }
        for (int m = 2; m <= 3; m++) {
            CommandLink x = Ask.withReport(3, m == 2 ? RESEND : RESEND + WAITS, 0);
            x.tick(1);
            DUE.is("21 MACHINE " + m, m, x.sender(0));
            x.set(10, 1);
            x.tick(1);
            Ask.forgeReport(x, 0, LOCKED, 0);
            x.tick(1);
            DUE.is("21 LOCKED in " + m, 1, x.alarm(0));
        }
    }

    private static void lockedIsAskedFirst() {
        CommandLink number = Ask.withReport(3, LOCKED, 77);
        number.tick(1);
        DUE.is("21 LOCKED ahead of a number that can't be", 1, number.alarm(0));
        CommandLink report = Ask.withReport(3, LOCKED + WAITS, 3);
        report.tick(1);
        DUE.is("21 LOCKED ahead of a report that can't be", 1, report.alarm(0));
    }

    /** "MACHINE 6: it is only told." */
    private static void reportsInMachine6() {
        for (int flags : new int[] {0, 31}) {
            CommandLink x = Ask.withReport(2, flags, 77);
            x.direct(0);
            x.tick(1);
            DUE.is("22 it is told", flags == 0 ? "---0 77" : "LWR3 77", Ask.text(x, 0));
            DUE.is("21 no ALARM but STOP", 1, x.alarm(-1));
            DUE.is("21 SEEN stays", 0, x.sender(2));
        }
        for (int m = 1; m <= 5; m++) {
            CommandLink x = Scenes.held(m);
            x.set(10, 1);
            x.tick(1);
            int last = x.way(false, -1, 0) - 1;
            Ask.forgeReport(x, last, 31, 99);
            x.tick(1);
            DUE.is("22 it is told when HELD " + m, "LWR3 99", Ask.text(x, 0));
            DUE.is("21 HELD stays " + m, m, x.sender(9));
        }
    }

    private static void reportsThatAreNotGood() {
        CommandLink x = Ask.withReport(3, LOCKED, 0);
        x.spoil(false, 0, 2, x.way(false, 0, 2) ^ 1);
        x.tick(1);
        DUE.is("21 one that is not good gives no ALARM", 0, x.alarm(-1));
        DUE.is("22 but is told", "?", Ask.text(x, 0));
        DUE.is("22 one sign", 1, x.told(0, -1));
        x.set(10, 1);
        x.tick(1);
        x.tick(1);
        DUE.is("22 the next is good", "---0 0", Ask.text(x, 0));
        CommandLink flags = Ask.withReport(3, 32 + LOCKED, 0);
        flags.tick(1);
        DUE.is("22 FLAGS 33", "?", Ask.text(flags, 0));
        DUE.is("21 FLAGS 33 give no ALARM", 0, flags.alarm(-1));
    }

    /** "Of TEXT what 0 .. 3 the i-th sign; i NONE: how many it has." */
    private static void textsThatAre() {
        CommandLink x = new CommandLink();
        int[] lengths = {0, 10, 6, 0};
        for (int what = 0; what <= 3; what++) {
            DUE.is("22 how many signs has " + what, lengths[what], x.told(what, -1));
        }
        DUE.is("22 the first sign", 'O', x.told(1, 0));
        DUE.is("22 the last sign", '0', x.told(1, 9));
        DUE.is("22 the last of the receiver", '0', x.told(2, 5));
    }

    private static void textsThatAreNone() {
        for (int what : new int[] {-1, 4, -2, 5, MIN, MAX}) {
            REFUSED.none("22 TEXT " + what, x -> x.told(what, 0));
            REFUSED.none("22 how many signs has TEXT " + what, x -> x.told(what, -1));
        }
    }

    /** "NONE if there is none such." */
    private static void signsOfATextAndBeyond() {
        for (int i : new int[] {10, 11, -2, 99, MIN, MAX}) {
            REFUSED.noneIn("22 sign " + i + " of ten", CommandLink::new, x -> x.told(1, i));
        }
        for (int i : new int[] {0, 1, -2}) {
            REFUSED.noneIn("22 sign " + i + " of an empty report", CommandLink::new, x -> x.told(0, i));
            REFUSED.noneIn("22 sign " + i + " of no alarm", CommandLink::new, x -> x.told(3, i));
        }
        REFUSED.noneIn("22 sign 6 of six", CommandLink::new, x -> x.told(2, 6));
        CommandLink x = Scenes.held(2);
        for (int what = 0; what <= 3; what++) {
            int length = x.told(what, -1);
            DUE.is("22 the last sign of " + what, true, x.told(what, length - 1) > 0);
            DUE.is("22 none behind it in " + what, -1, x.told(what, length));
        }
    }

    /** "L, W, R for each flag that is set (- for each that is not), then COUNT, a blank, its number". */
    private static void textOfTheReport() {
        for (int flags = 0; flags <= 31; flags++) {
            for (int n : new int[] {0, 9, 10, 99, 100, 255}) {
                CommandLink x = Ask.withReport(0, flags, n);
                x.direct(0);
                x.tick(1);
                String want = ((flags & 1) != 0 ? "L" : "-") + ((flags & 2) != 0 ? "W" : "-")
                        + ((flags & 4) != 0 ? "R" : "-") + flags / 8 + " " + n;
                DUE.is("22 the report", want, Ask.text(x, 0));
            }
        }
    }

    /** "the word of MACHINE .., a blank, how many SENT, /, K, a blank, #, NUMBER; HELD: a blank, HELD, a blank, its word". */
    private static void textOfTheSender() {
        String[] words = {"", "ACTIVE", "RESENDS", "WAITING", "CHECKS", "DIRECTS", "OFF"};
        String[] rest = {"", " 2/2 #4", " 2/2 #4", " 2/2 #4", " 0/2 #2", " 0/2 #9", " 0/2 #2"};
        for (int m = 1; m <= 6; m++) {
            DUE.is("22 MACHINE " + m, words[m] + rest[m], Ask.text(Scenes.in(m), 1));
        }
        for (int m = 1; m <= 5; m++) {
            DUE.is("22 HELD " + m, "OFF" + rest[m] + " HELD " + words[m], Ask.text(Scenes.held(m), 1));
        }
        CommandLink x = new CommandLink();
        x.set(2, 20);
        x.renumber(255);
        DUE.is("22 K 20, NUMBER 255", "OFF 0/20 #255", Ask.text(x, 1));
        x.set(2, 1);
        x.renumber(0);
        DUE.is("22 K 1, NUMBER 0", "OFF 0/1 #0", Ask.text(x, 1));
        CommandLink y = Ask.withReport(10, 0, 0);
        DUE.is("22 ten SENT", "ACTIVE 10/20 #10", Ask.text(y, 1));
    }

    /** "OPEN, WAIT or LOCKED (LOCKED ahead), a blank, NEXT, and R behind it, if RESEND". */
    private static void textOfTheReceiver() {
        CommandLink x = Ask.quick();
        x.set(1, 0);
        Ask.comes(x, 2, 0, 1, 255);
        DUE.is("22 OPEN", "OPEN 255", Ask.text(x, 2));
        Ask.comes(x, 0, 0, 0, 5);
        DUE.is("22 OPEN, RESEND", "OPEN 255R", Ask.text(x, 2));
        Ask.comes(x, 0, 255, 0, 5);
        DUE.is("22 WAIT, RESEND", "WAIT 255R", Ask.text(x, 2));
        Ask.comes(x, 0, 128, 0, 5);
        DUE.is("22 LOCKED ahead of WAIT", "LOCKED 255R", Ask.text(x, 2));
        CommandLink y = Ask.quick();
        Ask.comes(y, 0, 128, 0, 5);
        DUE.is("22 LOCKED", "LOCKED 0", Ask.text(y, 2));
        DUE.is("22 eight signs", 8, y.told(2, -1));
    }

    /** "the latest ALARM's word (LOCKED, STEP, NUMBER, REPORT, LIMIT, STOP); empty at first". */
    private static void textOfTheAlarm() {
        String[] words = {"LOCKED", "STEP", "NUMBER", "REPORT", "LIMIT", "STOP"};
        CommandLink[] links = {started(0, 5, LOCKED, 5), started(1, 5, RESEND, 5), started(0, 5, 0, 6),
            started(0, 5, WAITS, 5), new CommandLink(), started(0, 5, 0, 5)};
        links[4].set(4, 1);
        links[4].start(1, 0);
        links[4].tick(1);
        links[5].direct(0);
        for (int a = 0; a < words.length; a++) {
            DUE.is("22 the word of ALARM " + (a + 1), words[a], Ask.text(links[a], 3));
            DUE.is("21 ALARM " + (a + 1), a + 1, links[a].alarm(links[a].alarm(-1) - 1));
        }
    }
}
