import java.util.Map;
import java.util.function.Supplier;

/** The edges that the document names in promises 31 (soon), 32 (ways), 33 (image), 34 (look). */
public final class EdgesOf31To34Test {
    private static final Due DUE = new Due("EdgesOf31To34Test", 31, 34);
    private static final Refused REFUSED = new Refused(DUE);
    private static final int MIN = Integer.MIN_VALUE;
    private static final int MAX = Integer.MAX_VALUE;

    public static void main(String[] args) {
        nothingStaysOfThought();
        soonIsSoAlready();
        soonIsNone();
        soonAsItComes();
        soonOf400();
        soonBeyond9999();
        soonTakesBehindEachTick();
        soonWithFatesAsEver();
        soonWithoutLossAndSpoilt();
        waysOfEachScene();
        waysBehind100Ticks();
        waysWhenLocked();
        waysWithSentLeft();
        waysOfTheNumber();
        waysBehindStop();
        waysBeyond9999();
        waysWithoutLossAndSpoilt();
        waysWithAllTaken();
        noImage();
        imageMoreThanOnce();
        imageTakenAnew();
        imageOfEachScene();
        imageLeavesTapeAndFault();
        looksThatAreNone();
        looksOfTheSettings();
        lostByADraw();
        spoiltByADraw();
        spoiltByteGoesRound();
        spoiltReports();
        countsOfWhatWent();
        thrownAway();
        cameGood();
        linesOfThePlan();
        DUE.end();
    }

    /** "IN THOUGHT (nothing of it stays)". */
    private static void nothingStaysOfThought() {
        for (Map.Entry<String, Supplier<CommandLink>> scene : Scenes.all().entrySet()) {
            int soon = scene.getValue().get().soon();
            int ways = scene.getValue().get().ways();
            REFUSED.numberIn("31 nothing stays of soon() (" + scene.getKey() + ")", scene.getValue(), soon, x -> x.soon());
            REFUSED.numberIn("32 nothing stays of ways() (" + scene.getKey() + ")", scene.getValue(), ways, x -> x.ways());
        }
    }

    /** "LINE and SENT are empty and MACHINE is 1 (0: so already ..)". */
    private static void soonIsSoAlready() {
        CommandLink x = new CommandLink();
        x.start(0, 0);
        DUE.is("31 so already", 0, x.soon());
        x.past(1);
        DUE.is("31 PASSING is not asked", 0, x.soon());
        x.set(8, 90);
        DUE.is("31 nor is LOSS", 0, x.soon());
        x.send(1);
        DUE.is("31 one in LINE: behind PASSING it goes at 2, comes at 5, is told at 8, known at 11", 11, x.soon());
    }

    private static void soonIsNone() {
        DUE.is("31 a new object", -1, new CommandLink().soon());
        for (int m = 1; m <= 5; m++) {
            DUE.is("31 HELD " + m, -1, Scenes.held(m).soon());
        }
        CommandLink room = new CommandLink();
        room.set(1, 0);
        room.start(0, 0);
        room.send(1);
        DUE.is("31 ROOM 0", -1, room.soon());
        CommandLink step = new CommandLink();
        step.renumber(5);
        step.start(1, 0);
        DUE.is("31 out of step: ALARM 2", -1, step.soon());
        CommandLink locked = Ask.quick();
        Ask.comes(locked, 0, 128, 0, 5);
        locked.send(1);
        DUE.is("31 LOCKED", -1, locked.soon());
    }

    /** "in how few TICKS": as so many real TICKS would have it, and none fewer. */
    private static void soonAsItComes() {
        for (int how = 0; how <= 3; how++) {
            for (int lines = 0; lines <= 8; lines += 4) {
                CommandLink x = new CommandLink();
                x.set(1, 8);
                x.start(how, 0);
                for (int v = 0; v < lines; v++) {
                    x.send(v);
                }
                int soon = x.soon();
                for (int t = 0; t < soon; t++) {
                    DUE.is("31 START " + how + ", " + lines + ": not so yet", false, isIdle(x));
                    x.tick(1);
                }
                DUE.is("31 START " + how + ", " + lines + ": so then", true, isIdle(x));
            }
        }
    }

    private static boolean isIdle(CommandLink x) {
        return x.sender(0) == 1 && x.sender(3) == 0 && x.sender(4) == 0;
    }

    /** One in LINE whose first three FRAMES are lost, each for a PATIENCE. */
    private static CommandLink late(int patience, int down) {
        CommandLink x = new CommandLink();
        x.set(3, 9);
        x.set(4, patience);
        x.set(7, down);
        x.set(10, 1);
        x.start(0, 0);
        x.send(1);
        for (int n = 1; n <= 4; n++) {
            x.fate(true, n);
        }
        return x;
    }

    /** "0 .. 400 .. (.. NONE)". */
    private static void soonOf400() {
        DUE.is("31 goes at 385, comes at 388, is known at 399", 399, late(96, 11).soon());
        DUE.is("31 400 is the last that can be", 400, late(96, 12).soon());
        DUE.is("31 401 is none", -1, late(96, 13).soon());
        DUE.is("31 far beyond", -1, late(99, 40).soon());
    }

    private static CommandLink at9999() {
        CommandLink x = new CommandLink();
        for (int i = 0; i < 166; i++) {
            x.tick(60);
        }
        x.tick(39);
        return x;
    }

    /** "beyond 9999, too". */
    private static void soonBeyond9999() {
        CommandLink x = at9999();
        DUE.is("31 TICK 9999", 9999, x.look(0));
        DUE.is("31 OFF at 9999", -1, x.soon());
        x.start(0, 0);
        DUE.is("31 so already at 9999", 0, x.soon());
        x.send(1);
        DUE.is("31 goes at 10000, comes at 10003, is told at 10004, known at 10007", 8, x.soon());
        DUE.is("31 TICK stays", 9999, x.look(0));
    }

    /** "with all TAKEN behind each TICK": WAITS ends with that, too. */
    private static void soonTakesBehindEachTick() {
        CommandLink x = new CommandLink();
        x.set(1, 1);
        x.set(10, 1);
        x.set(7, 1);
        x.set(6, 1);
        x.set(2, 8);
        x.start(0, 0);
        for (int v = 0; v < 8; v++) {
            x.send(v);
        }
        DUE.is("31 ROOM 1 is enough: the eighth goes at 8, is known at 10", 10, x.soon());
        CommandLink waits = Ask.quick();
        waits.set(1, 1);
        waits.set(7, 1);
        waits.send(1);
        waits.send(2);
        waits.tick(3);
        DUE.is("31 it WAITS", "WAIT 1R", Ask.text(waits, 2));
        waits.set(10, 1);
        DUE.is("31 WAITS ends behind the first TICK", true, waits.soon() > 0);
    }

    /** "(FATES as ever)". */
    private static void soonWithFatesAsEver() {
        CommandLink x = new CommandLink();
        x.start(0, 0);
        x.send(1);
        DUE.is("31 without a FATE", 7, x.soon());
        x.fate(true, 2);
        DUE.is("31 a FATE of the second FRAME", 7, x.soon());
        x.fate(false, 1);
        DUE.is("31 a FATE of the REPORT", 11, x.soon());
        x.fate(true, 1);
        DUE.is("31 FATES of both FRAMES: ALARM 5 is near", 31, x.soon());
        DUE.is("31 the FATES are told still", -1, x.fate(true, 1));
        DUE.is("31 three of them", 3, x.fate(true, 9));
    }

    private static void soonWithoutLossAndSpoilt() {
        for (int what = 8; what <= 9; what++) {
            CommandLink x = new CommandLink();
            x.set(what, 90);
            x.state(Ask.stateAhead(0));
            x.start(0, 0);
            x.send(1);
            DUE.is("31 without LOSS, SPOILT", 7, x.soon());
            DUE.is("31 it is told still", 90, x.look(what + 1));
            DUE.is("31 STATE stays", Ask.stateAhead(0), x.look(12));
            x.tick(1);
            DUE.is("31 in truth it is lost or spoilt", 1, x.look(15));
        }
    }

    /** "(a set, bits 0 to 4)": GO ON when HELD alone. */
    private static void waysOfEachScene() {
        for (Map.Entry<String, Supplier<CommandLink>> scene : Scenes.all().entrySet()) {
            int ways = scene.getValue().get().ways();
            DUE.is("32 bits 0 to 4 alone: " + scene.getKey(), ways & 31, ways);
            boolean held = scene.getValue().get().sender(9) != 0;
            DUE.is("32 GO ON when HELD alone: " + scene.getKey(), true, held || ways < 16);
        }
        CommandLink x = new CommandLink();
        x.set(4, 2);
        x.set(5, 1);
        x.start(1, 0);
        x.tick(2);
        x.set(4, 12);
        DUE.is("32 HELD 4, in step: all five", 31, x.ways());
        x.direct(0);
        DUE.is("32 behind STOP: no GO ON", 15, x.ways());
    }

    /** Three REPORTS are lost, the fourth goes at 80 and comes at 120. */
    private static CommandLink reportAt120(int now) {
        CommandLink x = new CommandLink();
        x.set(3, 9);
        x.set(4, 99);
        x.set(6, 1);
        x.set(7, 40);
        x.set(10, 20);
        for (int n = 1; n <= 3; n++) {
            x.fate(false, n);
        }
        x.tick(now);
        return x;
    }

    /** "just behind 100 TICKS like these". */
    private static void waysBehind100Ticks() {
        DUE.is("32 in 99 TICKS it comes, ahead of the TIMER of START 1: all four", 15, reportAt120(21).ways());
        DUE.is("32 in 100 TICKS it comes: START 0, 2, 3", 13, reportAt120(20).ways());
        DUE.is("32 in 101 TICKS it comes: START 0 alone", 1, reportAt120(19).ways());
    }

    /** "not LOCKED": though MACHINE is 1, SENT empty and NUMBER NEXT. */
    private static void waysWhenLocked() {
        CommandLink x = Ask.quick();
        Ask.comes(x, 0, 128, 0, 5);
        DUE.is("32 LOCKED: START 2 alone", 4, x.ways());
        for (int n = 1; n <= 8; n++) {
            x.fate(false, n);
        }
        DUE.is("32 no REPORT for 100 TICKS: none", 0, x.ways());
    }

    /** "SENT empty". */
    private static void waysWithSentLeft() {
        CommandLink x = new CommandLink();
        x.set(3, 1);
        x.set(4, 3);
        x.set(5, 1);
        x.set(10, 20);
        x.start(0, 0);
        x.send(1);
        x.tick(4);
        DUE.is("32 HELD 1, the FRAME came", 1, x.receiver(0));
        x.set(4, 99);
        x.set(3, 9);
        DUE.is("32 in step with NUMBER 1: all five", 31, x.ways());
        for (int n = 1; n <= 6; n++) {
            x.fate(false, n);
        }
        DUE.is("32 no REPORT: GO ON leaves one SENT, START 0 does not", 1, x.ways());
    }

    /** "NUMBER NEXT". */
    private static void waysOfTheNumber() {
        for (int n : new int[] {1, 128, 255}) {
            CommandLink x = new CommandLink();
            x.renumber(n);
            DUE.is("32 NUMBER " + n + ": the set alone", 8, x.ways());
            for (int i = 1; i <= 8; i++) {
                x.fate(false, i);
            }
            x.set(10, 20);
            DUE.is("32 NUMBER " + n + ", no REPORT: none", 0, x.ways());
        }
        CommandLink next = Ask.quick();
        Ask.comes(next, 2, 0, 1, 255);
        DUE.is("32 START 3 with NEXT 255", 8, next.ways());
        next.direct(0);
        next.renumber(255);
        DUE.is("32 in step at 255: all four", 15, next.ways());
    }

    /** "(START 0 to 3 behind STOP, if need be)". */
    private static void waysBehindStop() {
        for (int how = 0; how <= 3; how++) {
            CommandLink x = new CommandLink();
            x.start(how, 0);
            DUE.is("32 START " + how + " was done: all four", 15, x.ways());
            DUE.is("32 no ALARM stays", 0, x.alarm(-1));
        }
        CommandLink line = new CommandLink();
        line.start(0, 0);
        for (int v = 0; v < 8; v++) {
            line.send(v);
        }
        DUE.is("32 LINE is gone with STOP: all four", 15, line.ways());
        line.tick(1);
        DUE.is("32 one is on its way, NUMBER 1: START 0 and, behind it, 2", true, (line.ways() & 1) == 1);
    }

    private static void waysBeyond9999() {
        CommandLink x = at9999();
        DUE.is("32 at 9999", 15, x.ways());
        DUE.is("32 TICK stays", 9999, x.look(0));
    }

    /** "TICKS like these": without LOSS, SPOILT, but FATES as ever. */
    private static void waysWithoutLossAndSpoilt() {
        for (int what = 8; what <= 9; what++) {
            CommandLink x = Ask.quick();
            Ask.comes(x, 0, 128, 0, 5);
            x.set(3, 1);
            x.set(what, 90);
            x.state(Ask.stateAhead(0));
            DUE.is("32 LOCKED: the unlock, whatever the DRAWS are", 4, x.ways());
            DUE.is("32 LOSS or SPOILT is told still", 90, x.look(what + 1));
            x.fate(true, 1);
            DUE.is("32 its FRAME is lost by a FATE, LIMIT 1: none", 0, x.ways());
        }
    }

    /** "TICKS like these": all are TAKEN behind each. Two are SENT, ROOM is 1. */
    private static void waysWithAllTaken() {
        CommandLink x = new CommandLink();
        x.set(1, 1);
        x.set(3, 1);
        x.set(4, 2);
        x.set(5, 1);
        x.set(10, 20);
        x.start(0, 0);
        x.send(1);
        x.send(2);
        x.fate(true, 1);
        x.fate(true, 2);
        x.tick(4);
        DUE.is("32 HELD, both are lost", "OFF 2/3 #2 HELD ACTIVE", Ask.text(x, 1));
        x.set(4, 99);
        DUE.is("32 GO ON, with room for both, or the set", 24, x.ways());
        x.set(1, 0);
        DUE.is("32 ROOM 0: the set alone", 8, x.ways());
    }

    /** "false if there is none". */
    private static void noImage() {
        REFUSED.noIn("33 none on a new object", CommandLink::new, x -> x.image(false));
        CommandLink x = new CommandLink();
        x.start(0, 0);
        x.send(5);
        x.tick(2);
        DUE.is("33 none was taken", false, x.image(false));
        DUE.is("33 nothing has changed", 2, x.look(0));
        DUE.is("33 taken", true, x.image(true));
        DUE.is("33 gone back to", true, x.image(false));
    }

    /** "gone back to it may be more than once". */
    private static void imageMoreThanOnce() {
        CommandLink x = Scenes.in(2);
        x.image(true);
        for (int again = 0; again < 3; again++) {
            x.tick(20 + again);
            x.direct(0);
            x.set(0, 100 + 2 * again);
            x.start(3, 100 + again);
            x.fate(true, 50 + again);
            DUE.is("33 gone back, time " + again, true, x.image(false));
            DUE.is("33 TICK, time " + again, 9, x.look(0));
        }
        CommandLink y = Scenes.in(2);
        y.image(true);
        DUE.is("33 all is as it was", Ask.everything(y), Ask.everything(x));
        DUE.is("33 at once once more", true, x.image(false));
    }

    private static void imageTakenAnew() {
        CommandLink x = new CommandLink();
        x.image(true);
        x.tick(5);
        x.image(true);
        x.tick(7);
        DUE.is("33 gone back", true, x.image(false));
        DUE.is("33 to the latest", 5, x.look(0));
        x.tick(1);
        x.image(false);
        DUE.is("33 to the latest still", 5, x.look(0));
    }

    private static void stir(CommandLink x) {
        x.tick(25);
        x.direct(0);
        x.set(1, 8);
        x.set(8, 30);
        x.set(9, 30);
        x.start(0, 0);
        x.send(77);
        x.past(78);
        x.fate(true, 5);
        x.fate(false, 5);
        x.state(5);
        x.take();
        Ask.plan(x, "tick 9; take;");
        x.run(2);
        x.tick(25);
    }

    /** "all that is and was told .., as it was when it was taken": and all goes on from it. */
    private static void imageOfEachScene() {
        for (Map.Entry<String, Supplier<CommandLink>> scene : Scenes.all().entrySet()) {
            for (int future = 0; future <= 2; future++) {
                CommandLink x = scene.getValue().get();
                x.end(0);
                x.image(true);
                stir(x);
                x.image(false);
                CommandLink y = scene.getValue().get();
                y.end(0);
                goOn(x, future);
                goOn(y, future);
                Ask.plan(x, "foo");
                Ask.plan(y, "foo");
                DUE.is("33 as it was: " + scene.getKey() + ", " + future, Ask.everything(y), Ask.everything(x));
            }
        }
    }

    private static void goOn(CommandLink x, int future) {
        if (future == 1) {
            x.run(24);
            x.tick(9);
        }
        if (future == 2) {
            x.direct(1);
            x.tick(45);
        }
    }

    /** "all .. but the TAPE and fault()". */
    private static void imageLeavesTapeAndFault() {
        CommandLink x = new CommandLink();
        Ask.plan(x, "tick 61;");
        Ask.feed(x, "on;");
        x.image(true);
        DUE.is("33 the TAPE stays when it is taken", true, x.end(3));
        DUE.is("33 the FAULT stays when it is taken", 2, x.fault(0));
        Ask.feed(x, "foo");
        x.end(0);
        Ask.plan(x, "on;on;foo;");
        Ask.feed(x, "on;on;on;");
        x.image(false);
        DUE.is("33 fault() is of the latest plan()", 1, x.fault(0));
        DUE.is("33 its place, too", 6, x.fault(1));
        DUE.is("33 the TAPE has nine", false, x.end(10));
        DUE.is("33 which are a plan", 3, x.plan());
        DUE.is("33 the image had none", 3, x.look(18));
        x.image(false);
        DUE.is("33 gone back: no plan", 0, x.look(18));
        DUE.is("33 the TAPE is empty still", false, x.end(1));
        DUE.is("33 no FAULT still", 0, x.fault(0));
    }

    /** "NONE - 99999 for another what". */
    private static void looksThatAreNone() {
        for (int what : new int[] {-1, 20, -2, 21, MIN, MAX}) {
            REFUSED.number("34 what " + what, -100000, x -> x.look(what));
        }
    }

    private static void looksOfTheSettings() {
        int[] values = {20, 4, 5, 6, 7, 1, 8, 9, 10, 11, 12};
        CommandLink x = new CommandLink();
        for (int what = 0; what < values.length; what++) {
            x.set(what, values[what]);
        }
        for (int what = 0; what < values.length; what++) {
            DUE.is("34 what " + (what + 1), values[what], x.look(what + 1));
        }
        for (int state : new int[] {MIN, MAX, -1, -100000}) {
            x.state(state);
            DUE.is("34 STATE may be any int", state, x.look(12));
        }
    }

    /** A FRAME goes by a DRAW of 100 that answers this: 0 on its way, 1 lost, 2 spoilt. */
    private static int goesBy(int drawn, int loss, int spoilt) {
        CommandLink x = new CommandLink();
        x.set(8, loss);
        x.set(9, spoilt);
        x.state(Ask.stateAhead(drawn << 8));
        x.past(7);
        x.tick(1);
        boolean there = x.way(true, -1, 0) == 1;
        boolean whole = there && Ask.bytes(x, true, 0).equals("1 0 0 7 93");
        DUE.is("34 lost or spoilt, drawn " + drawn + " of " + loss + ", " + spoilt, whole ? 0 : 1, x.look(15));
        DUE.is("34 it went", 1, x.look(13));
        return whole ? 0 : there ? 2 : 1;
    }

    /** "a DRAW of 100: below LOSS: it is lost". */
    private static void lostByADraw() {
        DUE.is("34 0 is below LOSS 1", 1, goesBy(0, 1, 0));
        DUE.is("34 1 is not below LOSS 1", 0, goesBy(1, 1, 0));
        DUE.is("34 0 is not below LOSS 0", 0, goesBy(0, 0, 0));
        DUE.is("34 89 is below LOSS 90", 1, goesBy(89, 90, 0));
        DUE.is("34 90 is not below LOSS 90", 0, goesBy(90, 90, 0));
        DUE.is("34 99 is not", 0, goesBy(99, 90, 0));
    }

    /** "below both: a byte of it .. is 1 more". */
    private static void spoiltByADraw() {
        DUE.is("34 0 is below SPOILT 1", 2, goesBy(0, 0, 1));
        DUE.is("34 1 is not below SPOILT 1", 0, goesBy(1, 0, 1));
        DUE.is("34 89 is below SPOILT 90", 2, goesBy(89, 0, 90));
        DUE.is("34 90 is not below SPOILT 90", 0, goesBy(90, 0, 90));
        DUE.is("34 29 is below LOSS 30", 1, goesBy(29, 30, 40));
        DUE.is("34 30 is below both, 70", 2, goesBy(30, 30, 40));
        DUE.is("34 69 is below both, 70", 2, goesBy(69, 30, 40));
        DUE.is("34 70 is not below both, 70", 0, goesBy(70, 30, 40));
    }

    /** STATE from which the second DRAW makes this one, the first a DRAW of 100 that is below 90. */
    private static int stateTwiceAhead(int m, int wanted) {
        for (int high = wanted; ; high += m) {
            int first = Ask.stateAhead(high << 8);
            if ((first >>> 8) % 100 < 90) {
                return Ask.stateAhead(first);
            }
        }
    }

    /** "(a DRAW of how many it has) is 1 more": a byte of 255 is 0 then. */
    private static void spoiltByteGoesRound() {
        for (int k = 0; k < 5; k++) {
            CommandLink x = new CommandLink();
            x.set(9, 90);
            x.state(stateTwiceAhead(5, k));
            x.renumber(255);
            x.start(0, 0);
            x.send(255);
            x.tick(1);
            int[] bytes = {0, 255, 0, 255, 83};
            for (int b = 0; b < 5; b++) {
                DUE.is("34 byte " + b + ", spoilt is " + k, b == k ? bytes[b] + 1 & 255 : bytes[b], x.way(true, 0, b));
            }
            DUE.is("34 one is spoilt", 1, x.look(15));
        }
        CommandLink check = new CommandLink();
        check.set(9, 90);
        check.state(stateTwiceAhead(5, 4));
        check.renumber(170);
        check.start(0, 0);
        check.send(0);
        check.tick(1);
        DUE.is("34 a CHECK of 255 is 0", "0 170 0 0 0", Ask.bytes(check, true, 0));
    }

    private static void spoiltReports() {
        for (int k = 0; k < 3; k++) {
            CommandLink x = new CommandLink();
            x.set(6, 1);
            x.start(3, 255);
            x.tick(3);
            x.set(9, 90);
            x.state(stateTwiceAhead(3, k));
            x.tick(1);
            int[] bytes = {8, 255, 92};
            for (int b = 0; b < 3; b++) {
                DUE.is("34 byte " + b + " of a REPORT, spoilt is " + k, b == k ? bytes[b] + 1 & 255 : bytes[b],
                        x.way(false, 0, b));
            }
            DUE.is("34 no FRAME is spoilt", 0, x.look(15));
            x.tick(3);
            DUE.is("34 it does not come good", 0, x.look(17));
        }
    }

    /** "13 FRAMES that went, 14 REPORTS that went". */
    private static void countsOfWhatWent() {
        CommandLink x = new CommandLink();
        x.start(0, 0);
        x.send(1);
        x.past(2);
        x.fate(true, 1);
        x.fate(false, 2);
        x.tick(3);
        DUE.is("34 two FRAMES, a lost one, too", 2, x.look(13));
        DUE.is("34 no REPORT yet", 0, x.look(14));
        x.tick(5);
        DUE.is("34 two REPORTS, a lost one, too", 2, x.look(14));
        DUE.is("34 one FRAME is lost", 1, x.look(15));
        x.drop(false, 0);
        DUE.is("34 what is dropped went, too", 2, x.look(14));
    }

    /** "16 FRAMES thrown away by the receiver (not good, or of KIND 0 and not taken in)". */
    private static void thrownAway() {
        CommandLink x = Ask.quick();
        x.set(1, 1);
        int[][] frames = {{0, 0, 0, 5, 0}, {0, 4, 0, 5, 1}, {0, 252, 0, 5, 2}, {0, 1, 0, 5, 3}, {0, 1, 0, 5, 4},
            {1, 0, 0, 5, 4}, {3, 0, 0, 5, 5}, {0, 128, 0, 5, 6}, {0, 1, 0, 5, 7}, {2, 0, 1, 9, 7}, {2, 0, 2, 0, 8},
            {2, 0, 0, 0, 8}, {1, 0, 40, 0, 9}, {0, 128, 39, 16, 10}};
        for (int[] f : frames) {
            Ask.comes(x, f[0], f[1], f[2], f[3]);
            DUE.is("34 thrown away behind " + f[0] + " " + f[1] + " " + f[2], f[4], x.look(16));
        }
        DUE.is("34 none of them is lost or spoilt by draws", 0, x.look(15));
    }

    /** "17 REPORTS that came good": in MACHINE 6, too. */
    private static void cameGood() {
        CommandLink x = new CommandLink();
        x.set(10, 1);
        x.set(7, 2);
        x.tick(2);
        DUE.is("34 none came", 0, x.look(17));
        x.tick(1);
        DUE.is("34 one came", 1, x.look(17));
        x.spoil(false, 0, 2, 0);
        x.tick(1);
        DUE.is("34 one that is not good came", 1, x.look(17));
        x.tick(1);
        DUE.is("34 the next is good", 2, x.look(17));
    }

    /** "18 lines of the plan, 19 lines that were run of it". */
    private static void linesOfThePlan() {
        CommandLink x = new CommandLink();
        Ask.plan(x, "on;".repeat(24));
        DUE.is("34 24 lines", 24, x.look(18));
        DUE.is("34 none was run", 0, x.look(19));
        x.run(23);
        DUE.is("34 23 were run, refused or not", 23, x.look(19));
        x.run(24);
        DUE.is("34 24 were run", 24, x.look(19));
        x.run(1);
        DUE.is("34 and no more", 24, x.look(19));
        Ask.plan(x, "on;");
        DUE.is("34 another plan: one line", 1, x.look(18));
        DUE.is("34 none was run of it", 0, x.look(19));
    }
}
