/** The edges that the document names in promises 1 (a new object), 2 (state), 3 (set). */
public final class EdgesOf1To3Test {
    private static final Due DUE = new Due("EdgesOf1To3Test", 1, 3);
    private static final Refused REFUSED = new Refused(DUE);
    private static final int MIN = Integer.MIN_VALUE;
    private static final int MAX = Integer.MAX_VALUE;

    private static final String[] NAMES = {"W", "ROOM", "K", "LIMIT", "PATIENCE", "MANNER", "UP", "DOWN", "LOSS",
        "SPOILT", "PERIOD"};
    private static final int[] AT_FIRST = {10, 3, 3, 3, 12, 0, 3, 3, 0, 0, 4};
    private static final int[] LEAST = {2, 0, 1, 1, 1, 0, 1, 1, 0, 0, 1};
    private static final int[] MOST = {200, 8, 20, 9, 99, 1, 40, 40, 90, 90, 20};

    public static void main(String[] args) {
        allAsAtFirst();
        nothingThereAtFirst();
        nothingCanBeDoneAtFirst();
        eachObjectByItself();
        everyInt();
        drawWraps();
        drawWithoutSign();
        drawOfTheHighestBits();
        eachSettingAtItsEdges();
        eachSettingBeyondItsEdges();
        windowIsEven();
        bothNinetyAtMost();
        otherWhat();
        windowTellsAtOnce();
        roomOfNoneAndOfEight();
        roomBelowWhatLiesThere();
        widthOfOneAndOfTwenty();
        widthBelowWhatIsSent();
        limitOfOneAndOfNine();
        limitBelowTries();
        patienceOfOneAndOf99();
        patienceLeavesTheTimer();
        mannerAsItIsThen();
        upOfOneAndOfForty();
        downOfOneAndOfForty();
        lossAndSpoiltReachNoneOnItsWay();
        periodOfOneAndOfTwenty();
        DUE.end();
    }

    /** "All as at first." */
    private static void allAsAtFirst() {
        CommandLink x = new CommandLink();
        DUE.is("1 NONE", -1, CommandLink.NONE);
        DUE.is("1 TICK", 0, x.look(0));
        for (int what = 0; what < NAMES.length; what++) {
            DUE.is("1 " + NAMES[what], AT_FIRST[what], x.look(what + 1));
        }
        for (int what = 12; what <= 19; what++) {
            DUE.is("1 look " + what, 0, x.look(what));
        }
        int[] sender = {6, 0, 0, 0, 0, 0, 0, 0, 0, 0, -1};
        for (int what = 0; what < sender.length; what++) {
            DUE.is("1 sender " + what, sender[what], x.sender(what));
        }
        for (int what = 0; what <= 7; what++) {
            DUE.is("1 receiver " + what, 0, x.receiver(what));
        }
        DUE.is("1 no report", "", Ask.text(x, 0));
        DUE.is("1 the sender", "OFF 0/3 #0", Ask.text(x, 1));
        DUE.is("1 the receiver", "OPEN 0", Ask.text(x, 2));
        DUE.is("1 no alarm", "", Ask.text(x, 3));
        DUE.is("1 no FAULT", 0, x.fault(0));
        DUE.is("1 no place", -1, x.fault(1));
    }

    private static void nothingThereAtFirst() {
        CommandLink x = new CommandLink();
        DUE.is("1 no SENT", -2, x.sender(100));
        DUE.is("1 no N of it", -2, x.sender(200));
        DUE.is("1 no ORDER", -2, x.receiver(100));
        DUE.is("1 no PAST", -2, x.receiver(200));
        DUE.is("1 no FRAMES", 0, x.way(true, -1, 0));
        DUE.is("1 no FRAME", -1, x.way(true, 0, 0));
        DUE.is("1 no REPORTS", 0, x.way(false, -1, 0));
        DUE.is("1 no REPORT", -1, x.way(false, 0, -1));
        DUE.is("1 no ALARMS", 0, x.alarm(-1));
        DUE.is("1 no ALARM", -1, x.alarm(0));
        DUE.is("1 no DIARY", 0, x.diary(-1, 0));
        DUE.is("1 no line of it", -1, x.diary(0, 0));
        DUE.is("1 no LEDGER", 0, x.ledger(-1, 0));
        DUE.is("1 no line of it, too", -1, x.ledger(0, 0));
        for (int v = 0; v <= 8; v++) {
            DUE.is("1 no VERDICT " + v, 0, x.verdicts(v));
        }
        for (int what = 0; what <= 6; what++) {
            DUE.is("1 delays " + what, what == 1 ? -1 : 0, x.delays(what));
        }
        for (int what = 0; what <= 4; what++) {
            DUE.is("1 truth " + what, 0, x.truth(what));
        }
    }

    private static void nothingCanBeDoneAtFirst() {
        CommandLink x = new CommandLink();
        DUE.is("1 none is TAKEN", -1, x.take());
        DUE.is("1 none is dropped", false, x.drop(true, 0));
        DUE.is("1 none is spoilt", false, x.spoil(false, 0, 0, 0));
        DUE.is("1 nothing to STOP", false, x.direct(0));
        DUE.is("1 nothing to GO ON with", false, x.direct(1));
        DUE.is("1 no image", false, x.image(false));
        DUE.is("1 SOON none", -1, x.soon());
        DUE.is("1 each START leads out", 15, x.ways());
        DUE.is("1 the TAPE is empty", false, x.end(1));
        DUE.is("1 no line to run", 0, x.run(24));
        DUE.is("1 eight FATES up", 1, x.fate(true, 99));
        DUE.is("1 eight FATES down", 1, x.fate(false, 99));
    }

    private static void eachObjectByItself() {
        CommandLink x = Scenes.in(2);
        CommandLink y = new CommandLink();
        DUE.is("1 another object is as at first", Ask.everything(new CommandLink()), Ask.everything(y));
        y.start(3, 200);
        y.set(0, 2);
        y.tick(60);
        DUE.is("1 and leaves this one alone", Ask.everything(Scenes.in(2)), Ask.everything(x));
    }

    /** "STATE is told: what it was": every int can be. */
    private static void everyInt() {
        CommandLink x = new CommandLink();
        int was = 0;
        for (int v : new int[] {MIN, MAX, -1, 0, 1, 255, 256, -256}) {
            DUE.is("2 what it was before " + v, was, x.state(v));
            DUE.is("2 it is " + v, v, x.look(12));
            was = v;
        }
        DUE.is("2 nothing else has changed", Ask.everything(y(was)), Ask.everything(x));
    }

    private static CommandLink y(int state) {
        CommandLink y = new CommandLink();
        y.state(state);
        return y;
    }

    /** "1664525 times itself + 1013904223 (ints, which wrap)". */
    private static void drawWraps() {
        int[][] pairs = {{0, 1013904223}, {1, 1015568748}, {MAX, -1135243950}, {MIN, -1133579425}, {-1, 1012239698}};
        for (int[] p : pairs) {
            CommandLink x = new CommandLink();
            x.state(p[0]);
            x.past(1);
            x.tick(1);
            DUE.is("2 behind " + p[0], p[1], x.look(12));
        }
        DUE.is("2 the way back, for the tests below", MIN, Ask.stateAhead(MIN) * 1664525 + 1013904223);
    }

    /** A FRAME goes by a DRAW of 100 that answers this, with LOSS told: is it on its way? */
    private static boolean goesBy(int stateBehindDraw, int loss) {
        CommandLink x = new CommandLink();
        x.set(8, loss);
        x.state(Ask.stateAhead(stateBehindDraw));
        x.past(1);
        x.tick(1);
        DUE.is("2 STATE behind the DRAW", stateBehindDraw, x.look(12));
        return x.way(true, -1, 0) == 1;
    }

    /** "its highest 24 bits (without sign) modulo m". */
    private static void drawWithoutSign() {
        DUE.is("2 the lowest int draws 8: not below 8", true, goesBy(MIN, 8));
        DUE.is("2 the lowest int draws 8: below 9", false, goesBy(MIN, 9));
        DUE.is("2 -1 draws 15: not below 15", true, goesBy(-1, 15));
        DUE.is("2 -1 draws 15: below 16", false, goesBy(-1, 16));
        DUE.is("2 the highest int draws 7: not below 7", true, goesBy(MAX, 7));
        DUE.is("2 the highest int draws 7: below 8", false, goesBy(MAX, 8));
        DUE.is("2 0 draws 0: not below 0", true, goesBy(0, 0));
        DUE.is("2 0 draws 0: below 1", false, goesBy(0, 1));
    }

    private static void drawOfTheHighestBits() {
        DUE.is("2 the lowest 8 bits are not asked: 0", true, goesBy(5 * 256, 5));
        DUE.is("2 the lowest 8 bits are not asked: 255", true, goesBy(5 * 256 + 255, 5));
        DUE.is("2 below 6 both", false, goesBy(5 * 256, 6) || goesBy(5 * 256 + 255, 6));
        DUE.is("2 99 is the highest: not below 90", true, goesBy(99 * 256, 90));
        DUE.is("2 100 is 0: below 1", false, goesBy(100 * 256, 1));
    }

    /** "true": the last values that can be, W "even, 2 .. 200" to PERIOD "1 .. 20". */
    private static void eachSettingAtItsEdges() {
        for (int what = 0; what < NAMES.length; what++) {
            int step = what == 0 ? 2 : 1;
            for (int v : new int[] {LEAST[what], LEAST[what] + (what == 5 ? 0 : step), MOST[what] - (what == 5 ? 0 : step),
                MOST[what]}) {
                CommandLink x = new CommandLink();
                DUE.is("3 " + NAMES[what] + " can be " + v, true, x.set(what, v));
                for (int other = 0; other < NAMES.length; other++) {
                    DUE.is("3 " + NAMES[other] + " behind " + NAMES[what] + " " + v, other == what ? v : AT_FIRST[other],
                            x.look(other + 1));
                }
            }
        }
    }

    /** "false if one can't be": the first on either side, and those far away. */
    private static void eachSettingBeyondItsEdges() {
        for (int w = 0; w < NAMES.length; w++) {
            int what = w;
            for (int v : new int[] {LEAST[what] - 1, MOST[what] + 1, LEAST[what] - 2, MOST[what] + 2, MIN, MAX}) {
                REFUSED.no("3 " + NAMES[what] + " can't be " + v, x -> x.set(what, v));
            }
        }
    }

    /** "even, 2 .. 200 can be told". */
    private static void windowIsEven() {
        for (int v : new int[] {3, 9, 11, 101, 199, 0, 1, -2, 201, 202}) {
            REFUSED.no("3 W can't be " + v, x -> x.set(0, v));
        }
        CommandLink x = new CommandLink();
        for (int v = 2; v <= 200; v += 2) {
            DUE.is("3 W can be " + v, true, x.set(0, v));
        }
    }

    /** "0 .. 90 hundredths each, both 90 at most". */
    private static void bothNinetyAtMost() {
        for (int loss : new int[] {0, 1, 45, 89, 90}) {
            CommandLink x = new CommandLink();
            DUE.is("3 LOSS " + loss, true, x.set(8, loss));
            DUE.is("3 SPOILT makes 91 with LOSS " + loss, false, x.set(9, 91 - loss));
            DUE.is("3 SPOILT as it was", 0, x.look(10));
            DUE.is("3 SPOILT makes 90 with LOSS " + loss, true, x.set(9, 90 - loss));
            DUE.is("3 SPOILT is so", 90 - loss, x.look(10));
            DUE.is("3 LOSS one more than " + loss, false, x.set(8, loss + 1));
            DUE.is("3 LOSS as it was", loss, x.look(9));
            DUE.is("3 LOSS told as it is", true, x.set(8, loss));
            DUE.is("3 LOSS one less than " + loss, loss > 0, x.set(8, loss - 1));
            DUE.is("3 SPOILT one more then", loss > 0, x.set(9, 91 - loss));
        }
        REFUSED.noIn("3 SPOILT beyond both", () -> hurt(60, 30), x -> x.set(9, 31));
        REFUSED.noIn("3 LOSS beyond both", () -> hurt(60, 30), x -> x.set(8, 61));
    }

    private static CommandLink hurt(int loss, int spoilt) {
        CommandLink x = new CommandLink();
        x.set(8, loss);
        x.set(9, spoilt);
        return x;
    }

    /** "or another what". */
    private static void otherWhat() {
        for (int what : new int[] {-1, 11, 12, MIN, MAX}) {
            for (int v : new int[] {0, 1, 2, 10}) {
                REFUSED.no("3 what " + what + ", " + v, x -> x.set(what, v));
            }
        }
    }

    private static void windowTellsAtOnce() {
        CommandLink x = new CommandLink();
        x.set(0, 2);
        DUE.is("3 W 2: 1 lies outside", 3, x.zone(1));
        DUE.is("3 W 2: 255 lies behind", 2, x.zone(255));
        DUE.is("3 W 2: 254 lies outside", 3, x.zone(254));
        x.set(0, 200);
        DUE.is("3 W 200: 99 lies ahead", 1, x.zone(99));
        DUE.is("3 W 200: 100 lies outside", 3, x.zone(100));
        DUE.is("3 W 200: 155 lies outside", 3, x.zone(155));
        DUE.is("3 W 200: 156 lies behind", 2, x.zone(156));
    }

    /** ROOM "0 .. 8". */
    private static void roomOfNoneAndOfEight() {
        CommandLink none = Ask.quick();
        none.set(1, 0);
        none.send(5);
        none.tick(2);
        DUE.is("3 ROOM 0 takes none in", "WAIT 0R", Ask.text(none, 2));
        CommandLink eight = Ask.quick();
        eight.set(1, 8);
        for (int v = 0; v < 8; v++) {
            eight.send(v);
        }
        eight.tick(8);
        eight.send(8);
        eight.tick(1);
        DUE.is("3 ROOM 8 takes eight in", 8, eight.receiver(5));
        DUE.is("3 and is open then", "OPEN 8", Ask.text(eight, 2));
        eight.tick(1);
        DUE.is("3 but no ninth", 8, eight.receiver(5));
        DUE.is("3 for which it waits", "WAIT 8R", Ask.text(eight, 2));
    }

    /** "What .. lies there already goes on as it is". */
    private static void roomBelowWhatLiesThere() {
        CommandLink x = Ask.quick();
        x.send(1);
        x.send(2);
        x.send(3);
        x.tick(4);
        x.set(1, 1);
        DUE.is("3 three lie there still", 3, x.receiver(5));
        DUE.is("3 it does not wait for that", 0, x.receiver(2));
        DUE.is("3 the first is TAKEN", 1, x.take());
        DUE.is("3 the second is TAKEN", 2, x.take());
        x.send(4);
        x.tick(2);
        DUE.is("3 one lies there: no room", "WAIT 3R", Ask.text(x, 2));
    }

    /** K "1 .. 20". */
    private static void widthOfOneAndOfTwenty() {
        CommandLink one = new CommandLink();
        one.set(2, 1);
        one.set(6, 40);
        one.set(4, 99);
        one.start(0, 0);
        one.send(1);
        one.send(2);
        one.tick(9);
        DUE.is("3 K 1: one is SENT", 1, one.sender(4));
        DUE.is("3 K 1: one waits in LINE", 1, one.sender(3));
        CommandLink twenty = new CommandLink();
        twenty.set(2, 20);
        twenty.set(6, 40);
        twenty.set(4, 99);
        twenty.start(0, 0);
        for (int v = 0; v < 21; v++) {
            twenty.send(v);
            twenty.tick(1);
        }
        DUE.is("3 K 20: twenty are SENT", 20, twenty.sender(4));
        DUE.is("3 K 20: the 21st waits in LINE", 1, twenty.sender(3));
    }

    private static void widthBelowWhatIsSent() {
        CommandLink x = Ask.withReport(3, 0, 1);
        x.set(2, 1);
        x.send(7);
        DUE.is("3 K 1: three are SENT still", "ACTIVE 3/1 #3", Ask.text(x, 1));
        x.tick(1);
        DUE.is("3 two are: no new FRAME", "ACTIVE 2/1 #3", Ask.text(x, 1));
        DUE.is("3 it waits in LINE", 1, x.sender(3));
    }

    /** LIMIT "1 .. 9". */
    private static void limitOfOneAndOfNine() {
        for (int limit : new int[] {1, 2, 8, 9}) {
            CommandLink x = new CommandLink();
            x.set(3, limit);
            x.set(4, 2);
            x.set(6, 40);
            x.set(7, 40);
            x.start(0, 0);
            x.send(1);
            x.tick(1 + 2 * limit - 1);
            DUE.is("3 LIMIT " + limit + ": it went so often", limit, x.look(13));
            DUE.is("3 LIMIT " + limit + ": no ALARM yet", 0, x.alarm(-1));
            x.tick(1);
            DUE.is("3 LIMIT " + limit + ": ALARM 5", 5, x.alarm(0));
            DUE.is("3 LIMIT " + limit + ": and no more", limit, x.look(13));
        }
    }

    private static void limitBelowTries() {
        CommandLink x = new CommandLink();
        x.set(3, 9);
        x.set(4, 2);
        x.set(6, 40);
        x.set(7, 40);
        x.start(0, 0);
        x.send(1);
        x.tick(6);
        DUE.is("3 TRIES 3", 3, x.sender(7));
        x.set(3, 2);
        DUE.is("3 LIMIT below TRIES: the TIMER runs on", 1, x.sender(8));
        x.tick(1);
        DUE.is("3 ALARM 5 at its end", 5, x.alarm(0));
    }

    /** PATIENCE "1 .. 99". */
    private static void patienceOfOneAndOf99() {
        for (int patience : new int[] {1, 2, 98, 99}) {
            CommandLink x = new CommandLink();
            x.set(4, patience);
            x.set(5, 1);
            x.set(10, 20);
            x.set(7, 40);
            for (int n = 1; n <= 5; n++) {
                x.fate(false, n);
            }
            DUE.is("3 PATIENCE " + patience, true, x.start(1, 0));
            DUE.is("3 TIMER " + patience, patience, x.sender(8));
            for (int left = patience - 1; left > 0; left -= Math.min(left, 60)) {
                x.tick(Math.min(left, 60));
            }
            DUE.is("3 TIMER 1", 1, x.sender(8));
            DUE.is("3 MACHINE 4 still", 4, x.sender(0));
            x.tick(1);
            DUE.is("3 PATIENCE " + patience + " is over", 4, x.sender(9));
        }
    }

    /** "What .. runs .. goes on as it is". */
    private static void patienceLeavesTheTimer() {
        CommandLink x = new CommandLink();
        x.start(1, 0);
        x.tick(1);
        x.set(4, 99);
        DUE.is("3 TIMER as it was", 11, x.sender(8));
        x.set(4, 1);
        DUE.is("3 TIMER as it was, once more", 11, x.sender(8));
        x.tick(1);
        DUE.is("3 and runs on", 10, x.sender(8));
    }

    /** MANNER "0 alarm, 1 suspend", as it is when the TIMER ends. */
    private static void mannerAsItIsThen() {
        for (int manner = 0; manner <= 1; manner++) {
            CommandLink x = new CommandLink();
            x.set(5, 1 - manner);
            x.set(4, 3);
            x.set(10, 20);
            x.start(1, 0);
            x.tick(2);
            x.set(5, manner);
            x.tick(1);
            DUE.is("3 MANNER " + manner + ": ALARMS", 1 - manner, x.alarm(-1));
            DUE.is("3 MANNER " + manner + ": HELD", 4 * manner, x.sender(9));
        }
    }

    /** UP "1 .. 40", "as told then". */
    private static void upOfOneAndOfForty() {
        for (int up : new int[] {1, 2, 39, 40}) {
            CommandLink x = new CommandLink();
            x.set(6, up);
            x.past(5);
            x.tick(1);
            DUE.is("3 UP " + up + ": its TICK", 1 + up, x.way(true, 0, -1));
            x.set(6, 3);
            DUE.is("3 what is on its way goes on as it is", 1 + up, x.way(true, 0, -1));
            if (up > 1) {
                x.tick(up - 1);
            }
            DUE.is("3 UP " + up + ": not yet", 0, x.receiver(7));
            x.tick(1);
            DUE.is("3 UP " + up + ": it comes", 1, x.receiver(7));
        }
    }

    /** DOWN "1 .. 40". */
    private static void downOfOneAndOfForty() {
        for (int down : new int[] {1, 2, 39, 40}) {
            CommandLink x = new CommandLink();
            x.set(7, down);
            x.tick(4);
            DUE.is("3 DOWN " + down + ": its TICK", 4 + down, x.way(false, 0, -1));
            x.set(7, 40);
            x.set(10, 20);
            DUE.is("3 what is on its way goes on as it is, down", 4 + down, x.way(false, 0, -1));
            if (down > 1) {
                x.tick(down - 1);
            }
            DUE.is("3 DOWN " + down + ": not yet", 0, x.look(17));
            x.tick(1);
            DUE.is("3 DOWN " + down + ": it comes", 1, x.look(17));
        }
    }

    private static void lossAndSpoiltReachNoneOnItsWay() {
        CommandLink x = new CommandLink();
        x.past(5);
        x.tick(1);
        x.set(9, 90);
        x.tick(3);
        DUE.is("3 SPOILT is for those that go then", 5, x.receiver(200));
        CommandLink y = new CommandLink();
        y.past(5);
        y.tick(1);
        y.set(8, 90);
        y.tick(3);
        DUE.is("3 LOSS is for those that go then", 5, y.receiver(200));
    }

    /** PERIOD "1 .. 20", "as soon as TICK is a multiple of it". */
    private static void periodOfOneAndOfTwenty() {
        CommandLink one = new CommandLink();
        one.set(10, 1);
        one.set(7, 40);
        one.tick(7);
        DUE.is("3 PERIOD 1: one each TICK", 7, one.look(14));
        for (int period : new int[] {2, 19, 20}) {
            CommandLink x = new CommandLink();
            x.set(10, period);
            x.tick(period - 1);
            DUE.is("3 PERIOD " + period + ": not yet", 0, x.look(14));
            x.tick(1);
            DUE.is("3 PERIOD " + period + ": at once", 1, x.look(14));
            x.tick(period - 1);
            DUE.is("3 PERIOD " + period + ": no other yet", 1, x.look(14));
            x.tick(1);
            DUE.is("3 PERIOD " + period + ": the next", 2, x.look(14));
        }
        CommandLink x = new CommandLink();
        x.tick(5);
        x.set(10, 3);
        x.tick(1);
        DUE.is("3 PERIOD 3 told at 5: at 6, not at 8", 2, x.look(14));
        x.tick(2);
        DUE.is("3 nor at 8", 2, x.look(14));
    }
}
