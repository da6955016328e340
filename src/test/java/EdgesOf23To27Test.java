/** The edges that the document names in promises 23 (judge), 24 (verdicts), 25 (diary), 26 (ledger), 27 (delays). */
public final class EdgesOf23To27Test {
    private static final Due DUE = new Due("EdgesOf23To27Test", 23, 27);
    private static final Refused REFUSED = new Refused(DUE);
    private static final int MIN = Integer.MIN_VALUE;
    private static final int MAX = Integer.MAX_VALUE;
    private static final int ALL = 0;
    private static final int NONE_OF_THEM = 1;
    private static final int SOME = 2;
    private static final int RESEND = 4;
    private static final int WAITS = 2;

    public static void main(String[] args) {
        theWholeTable();
        whatCantBeJudged();
        verdictsThatAre();
        verdictsThatAreNone();
        eachVerdictIsCounted();
        allFromEachMachine();
        someFromEachMachine();
        noneFromEachMachine();
        resendByTries();
        resendWithLimitOne();
        seenBehindIt();
        diaryOfEighty();
        diaryLinesThatAreNone();
        diaryOfEachChange();
        ledgerOfAHundred();
        ledgerLinesThatAreNone();
        ledgerBeyondAHundred();
        ledgerOfOneLine();
        ledgerOfALostFrame();
        ledgerGoneByAReport();
        delaysOfNone();
        delaysThatAreNone();
        delaysOfTheLongest();
        delaysOfTwice();
        delaysOfTheVanished();
        delaysOfThoseBehind();
        DUE.end();
    }

    /** The table, read from the document anew. */
    private static int verdict(int machine, int how, int flags, int tries, int limit) {
        boolean resend = flags % 2 == 1;
        boolean waits = flags >= 2;
        if (how == ALL) {
            return resend || waits ? 7 : 1;
        }
        if (waits && !resend) {
            return 7;
        }
        if (!resend) {
            return how == SOME ? 2 : machine == 1 ? 0 : 8;
        }
        if (limit == 1) {
            return 6;
        }
        if (how == SOME) {
            return 3;
        }
        switch (machine) {
            case 1: return tries >= limit ? 6 : 3;
            case 2: return waits ? 4 : 0;
            default: return waits ? 0 : 5;
        }
    }

    /** "MACHINE 1 .. 3, how 0 ALL, 1 NONE, 2 SOME, flags 0 .. 3, TRIES 0 .. 9, LIMIT 1 .. 9: the VERDICT". */
    private static void theWholeTable() {
        for (int machine = 1; machine <= 3; machine++) {
            for (int how = 0; how <= 2; how++) {
                for (int flags = 0; flags <= 3; flags++) {
                    CommandLink x = new CommandLink();
                    for (int tries = 0; tries <= 9; tries++) {
                        for (int limit = 1; limit <= 9; limit++) {
                            DUE.is("23 judge " + machine + " " + how + " " + flags + " " + tries + " " + limit,
                                    verdict(machine, how, flags, tries, limit),
                                    x.judge(machine, how, flags, tries, limit));
                        }
                    }
                    DUE.is("23 judging changes nothing", Ask.everything(new CommandLink()), Ask.everything(x));
                }
            }
        }
    }

    /** "NONE if one can't be." */
    private static void whatCantBeJudged() {
        int[][] edges = {{0, 4, -1, 5, MIN, MAX}, {-1, 3, -2, 4, MIN, MAX}, {-1, 4, -2, 5, MIN, MAX},
            {-1, 10, -2, 11, MIN, MAX}, {0, 10, -1, 11, MIN, MAX}};
        for (int arg = 0; arg < edges.length; arg++) {
            for (int v : edges[arg]) {
                int[] a = {1, 1, 1, 1, 3};
                a[arg] = v;
                REFUSED.noneIn("23 argument " + arg + " can't be " + v, CommandLink::new,
                        x -> x.judge(a[0], a[1], a[2], a[3], a[4]));
                REFUSED.noneIn("23 argument " + arg + " can't be " + v + " in MACHINE 2", () -> Scenes.in(2),
                        x -> x.judge(a[0], a[1], a[2], a[3], a[4]));
            }
        }
    }

    private static void verdictsThatAre() {
        CommandLink x = new CommandLink();
        for (int v = 0; v <= 8; v++) {
            DUE.is("24 VERDICT " + v + " at first", 0, x.verdicts(v));
        }
    }

    /** "NONE if there is none such." */
    private static void verdictsThatAreNone() {
        for (int v : new int[] {-1, 9, -2, 10, MIN, MAX}) {
            REFUSED.none("24 VERDICT " + v, x -> x.verdicts(v));
        }
    }

    /** Behind a REPORT with this, when three are SENT from NUMBER 254 on, in that MACHINE. */
    private static CommandLink judged(int machine, int flags, int far) {
        CommandLink x = Ask.withReportFrom(254, 3, machine == 3 ? RESEND + WAITS : RESEND, 254);
        if (machine == 1) {
            Ask.forgeReport(x, 0, 0, 254);
        }
        x.tick(1);
        DUE.is("24 MACHINE " + machine, machine, x.sender(0));
        x.set(4, 50);
        x.set(10, 1);
        x.tick(1);
        x.set(10, 20);
        Ask.forgeReport(x, 0, flags, 254 + far & 255);
        x.tick(1);
        return x;
    }

    private static String counts(CommandLink x) {
        StringBuilder s = new StringBuilder();
        for (int v = 0; v <= 8; v++) {
            s.append(x.verdicts(v));
        }
        return s.toString();
    }

    private static String plus(String counts, int verdict) {
        char[] c = counts.toCharArray();
        c[verdict]++;
        return new String(c);
    }

    /** "how often each came is counted": in each MACHINE, by each REPORT. */
    private static void eachVerdictIsCounted() {
        String[] before = {"", "100000000", "000100000", "000100000"};
        for (int machine = 1; machine <= 3; machine++) {
            for (int far = 0; far <= 3; far++) {
                int how = far == 3 ? ALL : far == 0 ? NONE_OF_THEM : SOME;
                for (int flags = 0; flags <= 3; flags++) {
                    CommandLink x = judged(machine, flags % 2 * RESEND + flags / 2 * WAITS, far);
                    int verdict = verdict(machine, how, flags, machine == 1 ? 1 : 2, 3);
                    DUE.is("24 in " + machine + ", far " + far + ", flags " + flags,
                            plus(before[machine], verdict), counts(x));
                    int[] alarms = {-1, -1, -1, -1, -1, -1, 5, 4, 2};
                    DUE.is("24 its ALARM", alarms[verdict], x.alarm(0));
                }
            }
        }
        DUE.is("24 ALARM 3 is no VERDICT", "100000000", counts(judged(1, 0, 4)));
        DUE.is("24 ALARM 1 is no VERDICT", "100000000", counts(judged(1, 1, 0)));
        CommandLink off = judged(1, 0, 3);
        off.direct(0);
        off.tick(60);
        DUE.is("24 none comes in MACHINE 6", "110000000", counts(off));
    }

    /** "ALL, neither: those behind are gone (all of SENT), MACHINE 1, TIMER 0." */
    private static void allFromEachMachine() {
        for (int machine = 1; machine <= 3; machine++) {
            CommandLink x = judged(machine, 0, 3);
            DUE.is("24 ALL in " + machine + ": MACHINE 1", 1, x.sender(0));
            DUE.is("24 ALL in " + machine + ": SENT", 0, x.sender(4));
            DUE.is("24 ALL in " + machine + ": TIMER", 0, x.sender(8));
            DUE.is("24 ALL in " + machine + ": SEEN, gone round", 1, x.sender(2));
            DUE.is("24 ALL in " + machine + ": TRIES stay", machine == 1 ? 1 : 2, x.sender(7));
            for (int i = 0; i < 3; i++) {
                DUE.is("26 ALL in " + machine + ": line " + i, 2, x.ledger(i, 6));
            }
        }
    }

    /** "SOME, neither: those ahead of N are gone from SENT, MACHINE 1, TRIES 1, TIMER PATIENCE." */
    private static void someFromEachMachine() {
        for (int machine = 1; machine <= 3; machine++) {
            for (int far = 1; far <= 2; far++) {
                CommandLink x = judged(machine, 0, far);
                String text = "24 SOME in " + machine + ", " + far + " gone: ";
                DUE.is(text + "MACHINE 1", 1, x.sender(0));
                DUE.is(text + "SENT", 3 - far, x.sender(4));
                DUE.is(text + "the first of them", 100 + far, x.sender(100));
                DUE.is(text + "its N", 254 + far & 255, x.sender(200));
                DUE.is(text + "TRIES", 1, x.sender(7));
                DUE.is(text + "TIMER, a TICK of it gone", 49, x.sender(8));
                DUE.is("26 line " + (far - 1) + " gone by the REPORT", 2, x.ledger(far - 1, 6));
                DUE.is("26 line " + far + " SENT still", 1, x.ledger(far, 6));
                for (int flags : new int[] {RESEND, RESEND + WAITS}) {
                    CommandLink y = judged(machine, flags, far);
                    DUE.is(text + "RESEND: MACHINE", flags == RESEND ? 2 : 3, y.sender(0));
                    DUE.is(text + "RESEND: SENT", 3 - far, y.sender(4));
                    DUE.is(text + "RESEND: MARKED, one goes in 2", 3 - far - (flags == RESEND ? 1 : 0), y.sender(5));
                    DUE.is(text + "RESEND: TRIES 0 and one more", 1, y.sender(7));
                    DUE.is(text + "RESEND: TIMER", 49, y.sender(8));
                }
            }
        }
    }

    /** "NONE, neither: MACHINE 1: nothing; 2, 3: ALARM 2." */
    private static void noneFromEachMachine() {
        CommandLink x = judged(1, 0, 0);
        DUE.is("24 NONE in 1: SENT", 3, x.sender(4));
        DUE.is("24 NONE in 1: TRIES", 1, x.sender(7));
        DUE.is("24 NONE in 1: none is MARKED", 0, x.sender(5));
        DUE.is("24 NONE in 1: TIMER goes on", 89, x.sender(8));
        for (int machine = 2; machine <= 3; machine++) {
            CommandLink y = judged(machine, 0, 0);
            DUE.is("24 NONE in " + machine + ": ALARM 2", 2, y.alarm(0));
            DUE.is("24 NONE in " + machine + ": SENT", 0, y.sender(4));
        }
        CommandLink two = judged(2, RESEND, 0);
        DUE.is("24 RESEND in 2: nothing", 2, two.sender(0));
        DUE.is("24 RESEND in 2: TRIES stay", 2, two.sender(7));
        DUE.is("24 RESEND in 2: TIMER goes on", 96, two.sender(8));
        CommandLink waits = judged(2, RESEND + WAITS, 0);
        DUE.is("24 RESEND, WAITS in 2: 3", 3, waits.sender(0));
        DUE.is("24 RESEND, WAITS in 2: no marks", 1, waits.sender(5));
        CommandLink three = judged(3, RESEND, 0);
        DUE.is("24 RESEND in 3: 2", 2, three.sender(0));
        DUE.is("24 RESEND in 3: no marks, one goes", 2, three.sender(5));
        DUE.is("24 RESEND in 3: TRIES stay", 2, three.sender(7));
        CommandLink stays = judged(3, RESEND + WAITS, 0);
        DUE.is("24 RESEND, WAITS in 3: nothing", 3, stays.sender(0));
        DUE.is("24 RESEND, WAITS in 3: all are MARKED still", 3, stays.sender(5));
    }

    /** One SENT in MACHINE 1, with TRIES 2, when RESEND, NONE comes. */
    private static CommandLink resendAtTwo(int limit, int flags) {
        CommandLink x = new CommandLink();
        x.set(3, 9);
        x.set(4, 5);
        x.set(6, 40);
        x.set(7, 1);
        x.set(10, 20);
        x.start(0, 0);
        x.tick(13);
        x.send(1);
        x.tick(7);
        DUE.is("24 TRIES 2", 2, x.sender(7));
        x.set(3, limit);
        Ask.forgeReport(x, 0, flags, 0);
        x.tick(1);
        return x;
    }

    /** "NONE: MACHINE 1: is TRIES LIMIT or above: ALARM 5, else all MARKED, MACHINE 2 (3)." */
    private static void resendByTries() {
        for (int flags : new int[] {RESEND, RESEND + WAITS}) {
            for (int limit : new int[] {1, 2}) {
                CommandLink x = resendAtTwo(limit, flags);
                DUE.is("24 TRIES 2, LIMIT " + limit + ": ALARM 5", 5, x.alarm(0));
                DUE.is("24 TRIES 2, LIMIT " + limit + ": the VERDICT", 1, x.verdicts(6));
                DUE.is("26 TRIES 2, LIMIT " + limit + ": gone by the ALARM", 3, x.ledger(0, 6));
            }
            CommandLink x = resendAtTwo(3, flags);
            DUE.is("24 TRIES 2, LIMIT 3: MACHINE", flags == RESEND ? 2 : 3, x.sender(0));
            DUE.is("24 TRIES 2, LIMIT 3: TRIES", 3, x.sender(7));
            DUE.is("24 TRIES 2, LIMIT 3: TIMER", 4, x.sender(8));
            DUE.is("24 TRIES 2, LIMIT 3: the VERDICT", 1, x.verdicts(3));
        }
    }

    /** "RESEND (NONE, SOME): those ahead of N are gone; LIMIT 1: ALARM 5." MANNER is not asked. */
    private static void resendWithLimitOne() {
        for (int machine = 1; machine <= 3; machine++) {
            for (int limit = 1; limit <= 2; limit++) {
                CommandLink x = Ask.withReport(3, machine == 3 ? RESEND + WAITS : machine == 2 ? RESEND : 0, 0);
                x.tick(1);
                x.set(3, limit);
                x.set(5, 1);
                x.set(10, 1);
                x.tick(1);
                Ask.forgeReport(x, 0, RESEND, 1);
                x.tick(1);
                String text = " in " + machine + ", LIMIT " + limit;
                DUE.is("24 SOME, RESEND" + text + ": ALARM", limit == 1 ? 5 : -1, x.alarm(0));
                DUE.is("24 SOME, RESEND" + text + ": HELD", 0, x.sender(9));
                DUE.is("24 SOME, RESEND" + text + ": SEEN", limit == 1 ? 0 : 1, x.sender(2));
                DUE.is("26 SOME, RESEND" + text + ": those ahead of N", 2, x.ledger(0, 6));
                DUE.is("26 SOME, RESEND" + text + ": those behind", limit == 1 ? 3 : 1, x.ledger(1, 6));
            }
        }
    }

    /** "Behind it SEEN is N (no ALARM)." */
    private static void seenBehindIt() {
        for (int far = 0; far <= 3; far++) {
            DUE.is("24 SEEN behind far " + far, 254 + far & 255, judged(1, 0, far).sender(2));
        }
        DUE.is("24 SEEN behind RESEND", 255, judged(1, RESEND, 1).sender(2));
        DUE.is("24 SEEN stays with ALARM 3", 254, judged(1, 0, 4).sender(2));
        DUE.is("24 SEEN stays with ALARM 4", 254, judged(1, WAITS, 1).sender(2));
    }

    private static CommandLink withChanges(int pairs) {
        CommandLink x = new CommandLink();
        for (int i = 0; i < pairs; i++) {
            x.tick(1);
            x.start(1, 0);
            x.direct(0);
        }
        return x;
    }

    /** "THE DIARY (80 lines; no more then)". */
    private static void diaryOfEighty() {
        CommandLink x = withChanges(39);
        DUE.is("25 78 lines", 78, x.diary(-1, 0));
        DUE.is("25 no 79th", -1, x.diary(78, 0));
        x.start(2, 0);
        DUE.is("25 79 lines", 79, x.diary(-1, 0));
        DUE.is("25 the 79th", 5, x.diary(78, 2));
        DUE.is("25 no 80th", -1, x.diary(79, 0));
        x.tick(1);
        x.direct(0);
        DUE.is("25 80 lines", 80, x.diary(-1, 0));
        DUE.is("25 the 80th: TICK", 40, x.diary(79, 0));
        DUE.is("25 the 80th: from", 5, x.diary(79, 1));
        DUE.is("25 the 80th: to", 6, x.diary(79, 2));
        x.start(0, 0);
        x.direct(0);
        DUE.is("25 no more then", 80, x.diary(-1, 0));
        DUE.is("25 no 81st", -1, x.diary(80, 0));
        DUE.is("25 the 80th stays", 5, x.diary(79, 1));
        DUE.is("25 the first stays", 1, x.diary(0, 0));
        DUE.is("25 MACHINE changes as ever", true, x.start(1, 0));
        DUE.is("25 MACHINE 4", 4, x.sender(0));
    }

    /** "NONE if there is none such, or another what." */
    private static void diaryLinesThatAreNone() {
        for (int what = 0; what <= 2; what++) {
            int w = what;
            for (int i : new int[] {-2, 2, 3, 80, MIN, MAX}) {
                REFUSED.noneIn("25 line " + i + " of two", () -> withChanges(1), x -> x.diary(i, w));
            }
            REFUSED.noneIn("25 line 0 of none", CommandLink::new, x -> x.diary(0, w));
        }
        for (int what : new int[] {-1, 3, -2, 4, MIN, MAX}) {
            for (int i = 0; i <= 1; i++) {
                int line = i;
                REFUSED.noneIn("25 what " + what, () -> withChanges(1), x -> x.diary(line, what));
            }
            DUE.is("25 how many, what " + what, 2, withChanges(1).diary(-1, what));
        }
    }

    /** "each change of MACHINE: TICK, the one ahead, the one behind (one that comes back .. at once: each)". */
    private static void diaryOfEachChange() {
        CommandLink x = new CommandLink();
        x.tick(3);
        x.start(0, 0);
        x.direct(0);
        x.start(0, 0);
        DUE.is("25 back at once: each", "3:6>1 3:1>6 3:6>1", Ask.diary(x));
        x.start(0, 0);
        x.direct(1);
        x.renumber(5);
        DUE.is("25 none by what is refused", 3, x.diary(-1, 0));
        x.send(5);
        x.tick(20);
        DUE.is("25 none by a REPORT that leaves it 1", 3, x.diary(-1, 0));
        CommandLink two = judged(2, RESEND, 1);
        DUE.is("25 none by marks that leave it 2", "0:6>1 21:1>2", Ask.diary(two));
        CommandLink three = judged(3, RESEND, 1);
        DUE.is("25 from 3 to 2", "0:6>1 21:1>3 23:3>2", Ask.diary(three));
    }

    private static CommandLink withLines(int many) {
        CommandLink x = new CommandLink();
        x.set(1, 8);
        x.set(6, 1);
        x.set(7, 1);
        x.set(10, 1);
        x.set(2, 20);
        x.start(0, 0);
        int sent = 0;
        for (int round = 0; round < 14 && sent < many; round++) {
            for (int v = 0; v < 8 && sent < many; v++) {
                x.send(1000 + sent);
                sent++;
            }
            x.tick(12);
            for (int v = 0; v < 8; v++) {
                x.take();
            }
        }
        return x;
    }

    /** "THE LEDGER (100 lines; no more then)". */
    private static void ledgerOfAHundred() {
        for (int many : new int[] {99, 100, 101, 104}) {
            CommandLink x = withLines(many);
            DUE.is("26 lines of " + many, Math.min(100, many), x.ledger(-1, 0));
            DUE.is("26 the 99th of " + many, "1098", Ask.ledger(x, 98).substring(0, 4));
            DUE.is("26 the 100th of " + many, many == 99 ? -1 : 1099, x.ledger(99, 0));
            DUE.is("26 the 100th of " + many + ", its end", many == 99 ? -1 : 2, x.ledger(99, 6));
            DUE.is("26 the 101st of " + many, -1, x.ledger(100, 0));
            DUE.is("26 the first of " + many, 1000, x.ledger(0, 0));
            DUE.is("27 taken in of " + many, Math.min(100, many), x.delays(0));
            DUE.is("26 the receiver had " + many, many, x.receiver(6));
        }
    }

    /** "NONE if there is none such, or another what." */
    private static void ledgerLinesThatAreNone() {
        for (int what = 0; what <= 6; what++) {
            int w = what;
            for (int i : new int[] {-2, 2, 3, 100, MIN, MAX}) {
                REFUSED.noneIn("26 line " + i + " of two", () -> Scenes.in(6), x -> x.ledger(i, w));
            }
            REFUSED.noneIn("26 line 0 of none", CommandLink::new, x -> x.ledger(0, w));
        }
        for (int what : new int[] {-1, 7, -2, 8, MIN, MAX}) {
            for (int i = 0; i <= 1; i++) {
                int line = i;
                REFUSED.noneIn("26 what " + what, () -> Scenes.in(6), x -> x.ledger(line, what));
            }
            DUE.is("26 how many, what " + what, 2, Scenes.in(6).ledger(-1, what));
        }
    }

    /** One beyond the hundredth goes, is taken in, gone by an ALARM: no line tells of it. */
    private static void ledgerBeyondAHundred() {
        CommandLink x = withLines(100);
        String last = Ask.ledger(x, 99);
        DUE.is("26 the 101st can be sent", 1, x.send(7));
        x.tick(1);
        DUE.is("26 it is SENT", 1, x.sender(4));
        x.set(10, 20);
        x.set(4, 2);
        x.tick(5);
        DUE.is("26 it is taken in", 101, x.receiver(6));
        DUE.is("26 the 100th is as it was", last, Ask.ledger(x, 99));
        DUE.is("27 none went more than once", 0, x.delays(6));
        DUE.is("27 a hundred were taken in", 100, x.delays(0));
        x.send(8);
        x.direct(0);
        DUE.is("26 the 100th is as it was behind the ALARM", last, Ask.ledger(x, 99));
        DUE.is("26 a hundred lines", 100, x.ledger(-1, 0));
    }

    /** "the command, TICK, how often it went, the TICK at which it went first (NONE) ..". */
    private static void ledgerOfOneLine() {
        CommandLink x = new CommandLink();
        x.start(0, 0);
        x.send(0);
        DUE.is("26 in LINE", "0 0 0 -1 0 -1 0", Ask.ledger(x, 0));
        x.tick(1);
        DUE.is("26 SENT", "0 0 1 1 0 -1 1", Ask.ledger(x, 0));
        x.tick(3);
        DUE.is("26 taken in", "0 0 1 1 1 4 1", Ask.ledger(x, 0));
        x.tick(2);
        DUE.is("26 its REPORT is on its way", "0 0 1 1 1 4 1", Ask.ledger(x, 0));
        x.tick(1);
        DUE.is("26 gone by the REPORT", "0 0 1 1 1 4 2", Ask.ledger(x, 0));
        x.direct(0);
        x.start(0, 0);
        DUE.is("26 neither ALARM nor START change that", "0 0 1 1 1 4 2", Ask.ledger(x, 0));
    }

    /** "one that is lost went, too". */
    private static void ledgerOfALostFrame() {
        CommandLink fate = new CommandLink();
        fate.start(0, 0);
        fate.send(5);
        fate.fate(true, 1);
        fate.tick(1);
        DUE.is("26 lost by a FATE", "5 0 1 1 0 -1 1", Ask.ledger(fate, 0));
        CommandLink drawn = new CommandLink();
        drawn.set(8, 90);
        drawn.state(Ask.stateAhead(0));
        drawn.start(0, 0);
        drawn.send(5);
        drawn.tick(1);
        DUE.is("26 none is on its way", 0, drawn.way(true, -1, 0));
        DUE.is("26 lost by a DRAW", "5 0 1 1 0 -1 1", Ask.ledger(drawn, 0));
        CommandLink dropped = new CommandLink();
        dropped.start(0, 0);
        dropped.send(5);
        dropped.tick(1);
        dropped.drop(true, 0);
        dropped.tick(12);
        DUE.is("26 dropped, it goes again", "5 0 2 1 0 -1 1", Ask.ledger(dropped, 0));
        dropped.tick(3);
        DUE.is("26 and is taken in", "5 0 2 1 1 16 1", Ask.ledger(dropped, 0));
    }

    /** "(A FRAME stays one of that command, whatever its bytes are made on its way ..)". */
    private static void ledgerGoneByAReport() {
        CommandLink x = new CommandLink();
        x.start(0, 0);
        x.send(5);
        x.send(6);
        x.tick(2);
        Ask.forge(x, true, 0, 1, 1);
        Ask.forge(x, true, 1, 1, 0);
        Ask.forge(x, true, 1, 3, 77);
        x.tick(3);
        DUE.is("26 the receiver took 77 in", 77, x.receiver(100));
        DUE.is("26 which is the second line's", "6 0 1 2 1 5 1", Ask.ledger(x, 1));
        DUE.is("26 the first is not taken in", "5 0 1 1 0 -1 1", Ask.ledger(x, 0));
        CommandLink kind = new CommandLink();
        kind.start(0, 0);
        kind.send(5);
        kind.tick(1);
        Ask.forge(kind, true, 0, 0, 1);
        kind.tick(3);
        DUE.is("26 it came past the order", 5, kind.receiver(200));
        DUE.is("26 which is not taken in in order", "5 0 1 1 0 -1 1", Ask.ledger(kind, 0));
    }

    /** "1 the longest .. (NONE: none was)". */
    private static void delaysOfNone() {
        int[] want = {0, -1, 0, 0, 0, 0, 0};
        CommandLink x = new CommandLink();
        x.start(0, 0);
        x.send(1);
        for (int what = 0; what <= 6; what++) {
            DUE.is("27 none was taken in: " + what, want[what], x.delays(what));
        }
        x.direct(0);
        for (int what = 0; what <= 6; what++) {
            DUE.is("27 gone by an ALARM: " + what, want[what], x.delays(what));
        }
    }

    /** "NONE for another what." */
    private static void delaysThatAreNone() {
        for (int what : new int[] {-1, 7, -2, 8, MIN, MAX}) {
            REFUSED.none("27 what " + what, x -> x.delays(what));
        }
    }

    /** "the longest that one waited from its TICK till it was taken in first", "all these waits together". */
    private static void delaysOfTheLongest() {
        CommandLink x = new CommandLink();
        x.set(6, 1);
        x.start(0, 0);
        x.send(1);
        x.tick(2);
        DUE.is("27 the shortest wait", 2, x.delays(1));
        DUE.is("27 together 2", 2, x.delays(2));
        x.send(2);
        x.set(6, 40);
        x.tick(1);
        x.set(6, 1);
        x.tick(9);
        x.send(3);
        DUE.is("27 two wait: as it was", 2, x.delays(1));
        x.tick(31);
        DUE.is("27 the second waited from 2 to 43", 41, x.delays(1));
        DUE.is("27 the third from 12 to 43", 2 + 41 + 31, x.delays(2));
        DUE.is("27 all three", 3, x.delays(0));
    }

    /** "3 how many were taken in more than once", "6 how many went more than once". */
    private static void delaysOfTwice() {
        CommandLink x = new CommandLink();
        x.set(4, 2);
        x.set(3, 9);
        x.set(10, 20);
        x.start(0, 0);
        x.send(1);
        x.tick(1);
        DUE.is("27 went once", 0, x.delays(6));
        x.tick(2);
        DUE.is("27 went twice", 1, x.delays(6));
        Ask.forge(x, true, 1, 1, 1);
        x.tick(1);
        DUE.is("27 taken in once", 0, x.delays(3));
        DUE.is("27 one was", 1, x.delays(0));
        x.tick(2);
        DUE.is("27 taken in twice", 1, x.delays(3));
        DUE.is("27 one was still", 1, x.delays(0));
        DUE.is("27 its wait is that of the first time", 4, x.delays(1));
        Ask.forge(x, true, 0, 1, 2);
        x.tick(2);
        DUE.is("27 three times counts once", 1, x.delays(3));
        DUE.is("26 three times", 3, x.ledger(0, 4));
    }

    /** "4 how many are gone by a REPORT though never taken in". */
    private static void delaysOfTheVanished() {
        for (int far = 0; far <= 3; far++) {
            DUE.is("27 gone by a REPORT, never taken in", far, judged(1, 0, far).delays(4));
        }
        DUE.is("27 gone by an ALARM is no such", 0, judged(1, 1, 2).delays(4));
        CommandLink x = new CommandLink();
        x.start(0, 0);
        x.send(5);
        x.tick(7);
        DUE.is("27 nor is one that was taken in", 0, x.delays(4));
        DUE.is("26 though gone by a REPORT", 2, x.ledger(0, 6));
        CommandLink late = judged(1, 0, 3);
        DUE.is("27 three", 3, late.delays(4));
        late.set(1, 8);
        Ask.forge(late, true, 0, 1, 0);
        late.tick(30);
        DUE.is("27 one of them is taken in behind it", 2, late.delays(4));
    }

    /** "5 how many were taken in first behind one of a later line". */
    private static void delaysOfThoseBehind() {
        CommandLink x = withLines(3);
        DUE.is("27 in order: none", 0, x.delays(5));
        CommandLink y = new CommandLink();
        y.set(6, 40);
        y.start(0, 0);
        y.send(1);
        y.send(2);
        y.tick(2);
        y.drop(true, 0);
        Ask.forge(y, true, 0, 1, 0);
        y.set(4, 1);
        y.tick(40);
        DUE.is("27 the second alone: none", 0, y.delays(5));
        DUE.is("27 it was taken in", 1, y.delays(0));
        behindAtOneTick();
    }

    /** Two lines on their way twice; all but the first come at one TICK, in the order of going. */
    private static CommandLink fourOnTheirWay() {
        CommandLink x = new CommandLink();
        x.set(6, 20);
        x.start(0, 0);
        x.send(100);
        x.send(200);
        x.tick(2);
        x.set(6, 1);
        x.tick(13);
        DUE.is("27 the first, the second, the first, the second", 4, x.way(true, -1, 0));
        return x;
    }

    private static void behindAtOneTick() {
        CommandLink behind = fourOnTheirWay();
        behind.drop(true, 0);
        Ask.forge(behind, true, 0, 1, 0);
        Ask.forge(behind, true, 1, 1, 1);
        behind.tick(7);
        DUE.is("27 both at one TICK", behind.ledger(0, 5), behind.ledger(1, 5));
        DUE.is("27 the first behind the second: one", 1, behind.delays(5));
        CommandLink order = fourOnTheirWay();
        order.drop(true, 0);
        order.drop(true, 0);
        order.tick(7);
        DUE.is("27 both at one TICK, in order", order.ledger(0, 5), order.ledger(1, 5));
        DUE.is("27 the second behind the first: none", 0, order.delays(5));
    }
}
