/** Promises 21 (alarm), 22 (told), 23 (judge), 24 (verdicts), 25 (diary): reports and the timer. */
public final class JudgeTest {
    private static final Due DUE = new Due("JudgeTest");
    private static final int RESEND = 4;
    private static final int WAITS = 2;
    private static final int LOCKED = 1;

    public static void main(String[] args) {
        table();
        tableOfLimitOne();
        judgeBounds();
        followedAll();
        followedSome();
        followedNone();
        followedResend();
        followedLimit();
        inResends();
        inWaiting();
        numberThatCantBe();
        marksMoveUp();
        triesBeginAnew();
        highestFlags();
        locked();
        checking();
        directing();
        whenOff();
        timerActive();
        timerWaiting();
        timerChecking();
        alarms();
        texts();
        diaryIsFull();
        DUE.end();
    }

    /** {machine, how, flags, verdict}, with TRIES 1 and LIMIT 3. */
    private static final int[][] TABLE = {
        {1, 0, 0, 1}, {1, 0, 1, 7}, {1, 0, 2, 7}, {1, 0, 3, 7},
        {1, 1, 0, 0}, {1, 1, 1, 3}, {1, 1, 2, 7}, {1, 1, 3, 3},
        {1, 2, 0, 2}, {1, 2, 1, 3}, {1, 2, 2, 7}, {1, 2, 3, 3},
        {2, 0, 0, 1}, {2, 0, 1, 7}, {2, 0, 2, 7}, {2, 0, 3, 7},
        {2, 1, 0, 8}, {2, 1, 1, 0}, {2, 1, 2, 7}, {2, 1, 3, 4},
        {2, 2, 0, 2}, {2, 2, 1, 3}, {2, 2, 2, 7}, {2, 2, 3, 3},
        {3, 0, 0, 1}, {3, 0, 1, 7}, {3, 0, 2, 7}, {3, 0, 3, 7},
        {3, 1, 0, 8}, {3, 1, 1, 5}, {3, 1, 2, 7}, {3, 1, 3, 0},
        {3, 2, 0, 2}, {3, 2, 1, 3}, {3, 2, 2, 7}, {3, 2, 3, 3},
    };

    private static void table() {
        CommandLink x = new CommandLink();
        for (int[] t : TABLE) {
            String call = "23 judge " + t[0] + " " + t[1] + " " + t[2];
            DUE.is(call, t[3], x.judge(t[0], t[1], t[2], 1, 3));
            boolean spent = t[0] == 1 && t[1] == 1 && (t[2] & 1) != 0;
            DUE.is(call + " TRIES LIMIT", spent ? 6 : t[3], x.judge(t[0], t[1], t[2], 3, 3));
            DUE.is(call + " TRIES above", spent ? 6 : t[3], x.judge(t[0], t[1], t[2], 9, 3));
            DUE.is(call + " TRIES below", t[3], x.judge(t[0], t[1], t[2], 8, 9));
        }
    }

    private static void tableOfLimitOne() {
        CommandLink x = new CommandLink();
        for (int[] t : TABLE) {
            boolean resend = t[1] != 0 && (t[2] & 1) != 0;
            DUE.is("23 LIMIT 1", resend ? 6 : t[3], x.judge(t[0], t[1], t[2], 0, 1));
        }
    }

    private static void judgeBounds() {
        CommandLink x = new CommandLink();
        int[][] cant = {{0, 0, 0, 0, 1}, {4, 0, 0, 0, 1}, {1, -1, 0, 0, 1}, {1, 3, 0, 0, 1}, {1, 0, -1, 0, 1},
            {1, 0, 4, 0, 1}, {1, 0, 0, -1, 1}, {1, 0, 0, 10, 1}, {1, 0, 0, 0, 0}, {1, 0, 0, 0, 10}};
        for (int[] c : cant) {
            DUE.is("23 can't be", -1, x.judge(c[0], c[1], c[2], c[3], c[4]));
        }
        DUE.is("23 judge counts nothing", 0, x.verdicts(1));
        DUE.is("24 below", -1, x.verdicts(-1));
        DUE.is("24 above", -1, x.verdicts(9));
    }

    private static void followedAll() {
        CommandLink x = Ask.withReport(3, 0, 3);
        x.tick(1);
        DUE.is("24 ALL are gone", 1, x.verdicts(1));
        DUE.is("24 SENT empty", 0, x.sender(4));
        DUE.is("24 TIMER 0", 0, x.sender(8));
        DUE.is("24 SEEN", 3, x.sender(2));
        DUE.is("24 MACHINE 1", 1, x.sender(0));
        for (int flags : new int[] {RESEND, WAITS, RESEND + WAITS}) {
            CommandLink y = Ask.withReport(3, flags, 3);
            y.tick(1);
            DUE.is("24 ALARM 4", 1, y.verdicts(7));
            DUE.is("21 ALARM 4", 4, y.alarm(0));
            DUE.is("24 gone by the ALARM", 3, y.ledger(0, 6));
            DUE.is("24 SEEN stays", 0, y.sender(2));
        }
    }

    private static void followedSome() {
        CommandLink x = Ask.withReport(3, 8, 2);
        x.tick(1);
        DUE.is("24 SOME are gone", 1, x.verdicts(2));
        DUE.is("24 one is left", 1, x.sender(4));
        DUE.is("24 it is the third", 102, x.sender(100));
        DUE.is("24 its N", 2, x.sender(200));
        DUE.is("24 SEEN is N", 2, x.sender(2));
        DUE.is("24 TRIES 1", 1, x.sender(7));
        DUE.is("24 TIMER runs anew, a TICK of it gone", 98, x.sender(8));
        CommandLink y = Ask.withReport(3, WAITS, 2);
        y.tick(1);
        DUE.is("24 WAITS without RESEND", 4, y.alarm(0));
        DUE.is("24 nothing is gone by it", 3, y.ledger(0, 6));
    }

    private static void followedNone() {
        CommandLink x = Ask.withReport(3, 0, 0);
        int timer = x.sender(8);
        x.tick(1);
        DUE.is("24 nothing", 1, x.verdicts(0));
        DUE.is("24 TIMER goes on", timer - 1, x.sender(8));
        DUE.is("24 SENT stays", 3, x.sender(4));
        CommandLink none = Ask.withReport(0, 0, 0);
        none.tick(1);
        DUE.is("24 ALL, if none is SENT", 1, none.verdicts(1));
    }

    private static void followedResend() {
        CommandLink x = Ask.withReport(3, RESEND, 0);
        x.tick(1);
        DUE.is("24 all are MARKED, one went", 2, x.sender(5));
        DUE.is("24 TRIES one more", 2, x.sender(7));
        DUE.is("24 MACHINE 2", 2, x.sender(0));
        CommandLink y = Ask.withReport(3, RESEND + WAITS, 1);
        y.tick(1);
        DUE.is("24 MACHINE 3", 3, y.sender(0));
        DUE.is("24 two are left, MARKED, none goes", 2, y.sender(5));
        DUE.is("24 SOME: TRIES 0 and one more", 1, y.sender(7));
        DUE.is("24 the first is gone", 2, y.ledger(0, 6));
        DUE.is("24 SEEN", 1, y.sender(2));
        DUE.is("24 its verdict", 1, y.verdicts(3));
    }

    private static void followedLimit() {
        CommandLink x = Ask.withReport(3, RESEND, 1);
        x.set(3, 1);
        x.tick(1);
        DUE.is("24 LIMIT 1", 5, x.alarm(0));
        DUE.is("24 those ahead are gone by the REPORT", 2, x.ledger(0, 6));
        DUE.is("24 the others by the ALARM", 3, x.ledger(1, 6));
        DUE.is("24 its verdict", 1, x.verdicts(6));
        CommandLink y = resendTwice(2);
        DUE.is("24 TRIES is LIMIT", 5, y.alarm(0));
        CommandLink z = resendTwice(3);
        DUE.is("24 TRIES below LIMIT", 0, z.alarm(-1));
        DUE.is("24 TRIES 3", 3, z.sender(7));
    }

    /** RESEND, NONE, in MACHINE 1 when the TIMER has brought it to TRIES 2, at 19. */
    private static CommandLink resendTwice(int limit) {
        CommandLink x = new CommandLink();
        x.set(3, limit);
        x.set(4, 5);
        x.set(6, 40);
        x.set(7, 1);
        x.set(10, 20);
        x.start(0, 0);
        x.tick(13);
        x.send(1);
        x.tick(7);
        DUE.is("24 TRIES 2 by the TIMER", 2, x.sender(7));
        Ask.forgeReport(x, 0, RESEND, 0);
        x.tick(1);
        return x;
    }

    private static CommandLink follow(CommandLink x, int flags, int n) {
        x.tick(20 - x.look(0) % 20);
        Ask.forgeReport(x, 0, flags, n);
        x.tick(1);
        return x;
    }

    private static CommandLink resends() {
        CommandLink x = Ask.withReport(3, RESEND, 0);
        x.tick(1);
        return x;
    }

    private static void inResends() {
        CommandLink nothing = follow(resends(), RESEND, 0);
        DUE.is("24 2: NONE, RESEND", 1, nothing.verdicts(0));
        DUE.is("24 2 stays", 2, nothing.sender(0));
        DUE.is("24 no marks", 0, nothing.sender(5));
        CommandLink waits = follow(resends(), RESEND + WAITS, 0);
        DUE.is("24 2: WAITS", 1, waits.verdicts(4));
        DUE.is("24 3 then", 3, waits.sender(0));
        DUE.is("24 no marks by it", 0, waits.sender(5));
        CommandLink step = follow(resends(), 0, 0);
        DUE.is("24 2: NONE, neither", 1, step.verdicts(8));
        DUE.is("21 out of step", 2, step.alarm(0));
        CommandLink some = follow(resends(), 0, 1);
        DUE.is("24 2: SOME, neither", 1, some.sender(0));
    }

    private static CommandLink waiting() {
        CommandLink x = Ask.withReport(3, RESEND + WAITS, 0);
        x.tick(1);
        return x;
    }

    private static void inWaiting() {
        CommandLink stays = follow(waiting(), RESEND + WAITS, 0);
        DUE.is("24 3: WAITS", 1, stays.verdicts(0));
        DUE.is("24 3 stays", 3, stays.sender(0));
        DUE.is("24 3 sends nothing", 3, stays.sender(5));
        DUE.is("4 3 takes commands", 1, stays.send(7));
        CommandLink again = follow(waiting(), RESEND, 0);
        DUE.is("24 3: RESEND", 1, again.verdicts(5));
        DUE.is("24 2 then, and one goes", 2, again.sender(5));
        CommandLink step = follow(waiting(), 0, 0);
        DUE.is("24 3: NONE, neither", 2, step.alarm(0));
        CommandLink some = follow(waiting(), 0, 2);
        DUE.is("24 3: SOME, neither", 1, some.sender(0));
        DUE.is("24 the MARKED one goes in MACHINE 1", 0, some.sender(5));
    }

    private static void numberThatCantBe() {
        CommandLink x = Ask.withReport(3, 0, 4);
        x.tick(1);
        DUE.is("21 beyond NUMBER", 3, x.alarm(0));
        DUE.is("24 no verdict", 0, x.verdicts(1) + x.verdicts(2) + x.verdicts(0));
        CommandLink y = Ask.withReport(3, 0, 255);
        y.tick(1);
        DUE.is("21 ahead of SEEN", 3, y.alarm(0));
        CommandLink z = Ask.withReport(3, LOCKED, 255);
        z.tick(1);
        DUE.is("21 LOCKED is asked first", 1, z.alarm(0));
    }

    /** One of three has gone again when the first two are known to be taken in. */
    private static void marksMoveUp() {
        CommandLink x = resends();
        x.past(1);
        x.past(2);
        x.past(3);
        x.set(10, 1);
        x.tick(1);
        x.set(10, 20);
        Ask.forgeReport(x, 0, 0, 2);
        x.tick(1);
        DUE.is("24 the third is MARKED still", 1, x.sender(5));
        DUE.is("24 MACHINE 1", 1, x.sender(0));
        CommandLink y = resends();
        y.tick(1);
        y.past(1);
        y.past(2);
        y.set(10, 1);
        y.tick(1);
        y.set(10, 20);
        DUE.is("24 the third is MARKED alone", 1, y.sender(5));
        Ask.forgeReport(y, 0, 0, 1);
        y.tick(1);
        DUE.is("24 and stays so", 1, y.sender(5));
        y.tick(1);
        DUE.is("24 it goes", 2, y.way(true, y.way(true, -1, 0) - 1, 1));
    }

    private static void triesBeginAnew() {
        CommandLink x = resends();
        DUE.is("18 TRIES 2", 2, x.sender(7));
        follow(x, 0, 1);
        DUE.is("24 SOME: TRIES 1", 1, x.sender(7));
        CommandLink y = follow(resends(), 0, 3);
        DUE.is("24 ALL: TRIES as they were", 2, y.sender(7));
        y.send(7);
        y.tick(1);
        DUE.is("18 TRIES 1 at a new FRAME, if SENT was empty", 1, y.sender(7));
        CommandLink z = resends();
        z.send(7);
        z.tick(3);
        DUE.is("18 a new FRAME behind others", 4, z.sender(4));
        DUE.is("18 TRIES stay", 2, z.sender(7));
    }

    private static void highestFlags() {
        CommandLink x = Ask.withReport(1, 31, 0);
        x.tick(1);
        DUE.is("22 FLAGS 31", "LWR3 0", Ask.text(x, 0));
        DUE.is("21 it is LOCKED", 1, x.alarm(0));
    }

    private static void locked() {
        CommandLink x = Ask.withReport(3, LOCKED + RESEND, 1);
        x.tick(1);
        DUE.is("21 LOCKED", 1, x.alarm(0));
        DUE.is("21 all are gone by it", 3, x.ledger(0, 6));
        DUE.is("22 its report", "L-R0 1", Ask.text(x, 0));
    }

    private static CommandLink inCheck(int flags, int n) {
        CommandLink x = Ask.withReport(0, flags, n);
        x.direct(0);
        x.renumber(5);
        x.start(1, 0);
        x.tick(1);
        return x;
    }

    private static void checking() {
        DUE.is("24 4: in step", 1, inCheck(0, 5).sender(0));
        DUE.is("24 4: TIMER 0", 0, inCheck(0, 5).sender(8));
        DUE.is("24 4: WAITS", 4, inCheck(WAITS, 5).sender(0));
        DUE.is("24 4: WAITS, TIMER", 98, inCheck(WAITS, 5).sender(8));
        DUE.is("21 4: RESEND", 2, inCheck(RESEND, 5).alarm(1));
        DUE.is("21 4: both", 2, inCheck(RESEND + WAITS, 5).alarm(1));
        DUE.is("21 4: another number", 2, inCheck(0, 6).alarm(1));
        DUE.is("21 4: another, WAITS", 2, inCheck(WAITS, 4).alarm(1));
        DUE.is("21 4: LOCKED", 1, inCheck(LOCKED, 5).alarm(1));
        DUE.is("24 4: no verdict", 0, inCheck(0, 5).verdicts(1));
    }

    private static CommandLink inDirect(int how, int flags, int n) {
        CommandLink x = Ask.withReport(0, flags, n);
        x.direct(0);
        x.renumber(5);
        x.start(how, 5);
        x.tick(1);
        return x;
    }

    private static void directing() {
        for (int how = 2; how <= 3; how++) {
            DUE.is("24 5: its number", 1, inDirect(how, 16, 5).sender(0));
            DUE.is("24 5: RESEND", 5, inDirect(how, RESEND, 5).sender(0));
            DUE.is("24 5: WAITS", 5, inDirect(how, WAITS, 5).sender(0));
            DUE.is("24 5: another number", 5, inDirect(how, 0, 6).sender(0));
            DUE.is("24 5: no ALARM by that", 1, inDirect(how, 0, 6).alarm(-1));
        }
        DUE.is("24 5 with unlock: LOCKED", 5, inDirect(2, LOCKED, 5).sender(0));
        DUE.is("21 5 with set: LOCKED", 1, inDirect(3, LOCKED, 5).alarm(1));
    }

    private static void whenOff() {
        CommandLink x = Ask.withReport(2, LOCKED + 24, 200);
        x.direct(0);
        x.tick(1);
        DUE.is("22 it is only told", "L--3 200", Ask.text(x, 0));
        DUE.is("21 no ALARM in 6", 1, x.alarm(-1));
        CommandLink y = Ask.withReport(2, 32, 0);
        y.tick(1);
        DUE.is("22 FLAGS above 31", "?", Ask.text(y, 0));
        DUE.is("22 it does not count", 0, y.verdicts(0));
        CommandLink z = Ask.withReport(2, 30, 1);
        z.tick(1);
        DUE.is("22 all but LOCKED", "-WR3 1", Ask.text(z, 0));
    }

    private static CommandLink silent(int manner) {
        CommandLink x = new CommandLink();
        x.set(5, manner);
        x.set(3, 2);
        x.set(4, 5);
        x.set(6, 40);
        x.set(7, 40);
        x.start(0, 0);
        x.send(1);
        x.tick(1);
        return x;
    }

    private static void timerActive() {
        CommandLink x = silent(0);
        x.tick(4);
        DUE.is("18 TIMER 1", 1, x.sender(8));
        x.tick(1);
        DUE.is("18 TIMER anew", 5, x.sender(8));
        DUE.is("18 TRIES 2", 2, x.sender(7));
        DUE.is("18 it stays 1", 1, x.sender(0));
        DUE.is("18 it went once more", 2, x.look(13));
        x.tick(5);
        DUE.is("21 LIMIT", 5, x.alarm(0));
        CommandLink y = silent(1);
        y.tick(10);
        DUE.is("18 MANNER 1", 1, y.sender(9));
        DUE.is("21 no ALARM", 0, y.alarm(-1));
        DUE.is("18 SENT stays", 1, y.sender(4));
    }

    private static void timerWaiting() {
        CommandLink x = waiting();
        x.set(4, 7);
        x.set(10, 20);
        int timer = x.sender(8);
        for (int i = 0; i < timer - 1; i++) {
            x.drop(false, 0);
            x.tick(1);
        }
        x.drop(false, 0);
        DUE.is("18 3: TIMER 1", 1, x.sender(8));
        x.tick(1);
        DUE.is("18 3: TIMER anew", 7, x.sender(8));
        DUE.is("18 3: TRIES as they were", 2, x.sender(7));
        x.set(3, 2);
        for (int i = 0; i < 7; i++) {
            x.drop(false, 0);
            x.tick(1);
        }
        DUE.is("21 3: LIMIT", 5, x.alarm(0));
    }

    private static void timerChecking() {
        CommandLink x = new CommandLink();
        x.set(4, 3);
        x.set(3, 9);
        x.start(1, 0);
        x.tick(2);
        DUE.is("18 4 waits", 4, x.sender(0));
        x.tick(1);
        DUE.is("21 4: ALARM 5, TRIES or not", 5, x.alarm(0));
    }

    private static void alarms() {
        CommandLink x = new CommandLink();
        DUE.is("21 none", -1, x.alarm(0));
        for (int i = 0; i < 62; i++) {
            x.start(0, 0);
            if (i == 61) {
                x.set(4, 1);
                x.set(3, 1);
                x.set(6, 40);
                x.send(1);
                x.tick(2);
            }
            x.direct(0);
        }
        DUE.is("21 how many ever", 62, x.alarm(-1));
        DUE.is("21 sixty kept", 6, x.alarm(59));
        DUE.is("21 no more", -1, x.alarm(60));
        DUE.is("21 below", -1, x.alarm(-2));
        DUE.is("22 the latest is told, kept or not", "LIMIT", Ask.text(x, 3));
    }

    private static void texts() {
        CommandLink x = new CommandLink();
        DUE.is("22 no such text", -1, x.told(4, -1));
        DUE.is("22 what below", -1, x.told(-1, -1));
        DUE.is("22 behind its end", -1, x.told(1, 10));
        DUE.is("22 i below", -1, x.told(1, -2));
        DUE.is("22 of an empty text", -1, x.told(0, 0));
        x.start(1, 0);
        DUE.is("22 CHECKS", "CHECKS 0/3 #0", Ask.text(x, 1));
        x.direct(0);
        DUE.is("22 STOP", "STOP", Ask.text(x, 3));
        x.start(3, 255);
        x.set(2, 20);
        DUE.is("22 DIRECTS", "DIRECTS 0/20 #255", Ask.text(x, 1));
        DUE.is("22 RESENDS", "RESENDS 3/20 #3", Ask.text(resends(), 1));
        DUE.is("22 WAITING", "WAITING 3/20 #3", Ask.text(waiting(), 1));
        String[] words = {"STEP", "NUMBER", "REPORT", "LOCKED"};
        CommandLink[] links = {inCheck(RESEND, 5), Ask.withReport(1, 0, 9), Ask.withReport(1, WAITS, 0),
            Ask.withReport(1, LOCKED, 0)};
        for (int i = 0; i < words.length; i++) {
            links[i].tick(1);
            DUE.is("22 its word", words[i], Ask.text(links[i], 3));
        }
        CommandLink held = waiting();
        held.set(5, 1);
        held.set(3, 1);
        for (int i = 0; i < 100 && held.sender(9) == 0; i++) {
            held.drop(false, 0);
            held.tick(1);
        }
        DUE.is("22 HELD", "OFF 3/20 #3 HELD WAITING", Ask.text(held, 1));
        held.direct(1);
        DUE.is("7 3 goes on as 2", "RESENDS 3/20 #3", Ask.text(held, 1));
    }

    private static void diaryIsFull() {
        CommandLink x = new CommandLink();
        DUE.is("25 none", -1, x.diary(0, 0));
        x.tick(5);
        for (int i = 0; i < 41; i++) {
            x.start(0, 0);
            x.direct(0);
        }
        DUE.is("25 eighty lines", 80, x.diary(-1, 99));
        DUE.is("25 the last", 5, x.diary(79, 0));
        DUE.is("25 from", 1, x.diary(79, 1));
        DUE.is("25 to", 6, x.diary(79, 2));
        DUE.is("25 another what", -1, x.diary(0, 3));
        DUE.is("25 what below", -1, x.diary(0, -1));
        DUE.is("25 no such line", -1, x.diary(80, 0));
        DUE.is("25 i below", -1, x.diary(-2, 0));
    }
}
