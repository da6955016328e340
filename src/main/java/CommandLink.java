/**
 * A command link to a spacecraft: a sending machine, a receiver, the channel between them,
 * and what is noted of all three. DOC.md says, as numbered promises, what each call answers;
 * the words in its capitals are used here in the same sense.
 *
 * <p>All that the image keeps stands in one Link, made of rows of fixed length: to take the
 * image, to go back to it and to try something in thought is each one copy into a Link that
 * the constructor has made, so that no call needs a new object.
 */
public final class CommandLink {

    /** None. */
    public static final int NONE = -1;

    private static final int NO_SUCH_PART = NONE - 1;
    private static final int NO_SUCH_LOOK = NONE - 99999;

    private static final int TICK_MOST = 9999;
    private static final int TICKS_AT_ONCE = 60;
    private static final int COMMAND_MOST = 9999;
    private static final int NUMBER_MOST = 255;
    private static final int SOON_TICKS = 400;
    private static final int WAYS_TICKS = 100;
    private static final int WAYS = 5;

    // The settings, in the order of set().
    private static final int W = 0;
    private static final int ROOM = 1;
    private static final int K = 2;
    private static final int LIMIT = 3;
    private static final int PATIENCE = 4;
    private static final int MANNER = 5;
    private static final int UP = 6;
    private static final int DOWN = 7;
    private static final int LOSS = 8;
    private static final int SPOILT = 9;
    private static final int PERIOD = 10;
    private static final int SETTINGS = 11;
    private static final int HURT_MOST = 90;
    private static final int[] SETTING_AT_FIRST = {10, 3, 3, 3, 12, 0, 3, 3, 0, 0, 4};
    private static final int[] SETTING_LEAST = {2, 0, 1, 1, 1, 0, 1, 1, 0, 0, 1};
    private static final int[] SETTING_MOST = {200, 8, 20, 9, 99, 1, 40, 40, 90, 90, 20};

    // Frames and reports.
    private static final int FRAME_BYTES = 5;
    private static final int REPORT_BYTES = 3;
    private static final int CHECK_START = 85;
    private static final int KIND_ORDER = 0;
    private static final int KIND_PAST = 1;
    private static final int KIND_DIRECTIVE = 2;
    private static final int FLAG_LOCKED = 1;
    private static final int FLAG_WAITS = 2;
    private static final int FLAG_RESEND = 4;
    private static final int FLAGS_MOST = 31;

    // The states of MACHINE.
    private static final int ACTIVE = 1;
    private static final int RESENDS = 2;
    private static final int WAITING = 3;
    private static final int CHECKS = 4;
    private static final int DIRECTS = 5;
    private static final int OFF = 6;

    // The alarms.
    private static final int ALARM_LOCKED = 1;
    private static final int ALARM_STEP = 2;
    private static final int ALARM_NUMBER = 3;
    private static final int ALARM_REPORT = 4;
    private static final int ALARM_LIMIT = 5;
    private static final int ALARM_STOP = 6;

    // How the number of a report stands, and what it wants, in the words of judge().
    private static final int STANDS_ALL = 0;
    private static final int STANDS_NONE = 1;
    private static final int STANDS_SOME = 2;
    private static final int WANTS_RESEND = 1;
    private static final int WANTS_WAIT = 2;

    // The verdicts.
    private static final int VERDICT_NOTHING = 0;
    private static final int VERDICT_ALL_GONE = 1;
    private static final int VERDICT_SOME_GONE = 2;
    private static final int VERDICT_MARKED = 3;
    private static final int VERDICT_WAITING = 4;
    private static final int VERDICT_RESENDS = 5;
    private static final int VERDICT_LIMIT = 6;
    private static final int VERDICT_REPORT = 7;
    private static final int VERDICT_STEP = 8;
    private static final int VERDICTS = 9;

    // The zones of a number.
    private static final int ZONE_NEXT = 0;
    private static final int ZONE_AHEAD = 1;
    private static final int ZONE_BEHIND = 2;
    private static final int ZONE_OUTSIDE = 3;

    // How a line of the ledger stands.
    private static final int IN_LINE = 0;
    private static final int IN_SENT = 1;
    private static final int GONE_BY_REPORT = 2;
    private static final int GONE_BY_ALARM = 3;

    // The words of a plan.
    private static final int PLAN_SEND = 0;
    private static final int PLAN_PAST = 1;
    private static final int PLAN_START = 2;
    private static final int PLAN_CHECK = 3;
    private static final int PLAN_UNLOCK = 4;
    private static final int PLAN_SET = 5;
    private static final int PLAN_STOP = 6;
    private static final int PLAN_ON = 7;
    private static final int PLAN_RENUMBER = 8;
    private static final int PLAN_TAKE = 9;
    private static final int PLAN_TICK = 10;
    private static final int PLAN_LOSE = 11;
    private static final int PLAN_DROP = 12;
    private static final int PLAN_WORDS = 13;
    private static final int PLAN_LINES = 24;

    private final Link now = new Link();
    private final Link kept = new Link();
    private final Link thought = new Link();
    private boolean hasImage = false;
    private final Reader reader = new Reader();
    private final StringBuilder text = new StringBuilder();

    public CommandLink() {
    }

    public int state(int v) {
        int before = now.common.draws;
        now.common.draws = v;
        return before;
    }

    public boolean set(int what, int v) {
        return now.common.change(what, v);
    }

    public int send(int v) {
        return now.sender.queue(v);
    }

    public int past(int v) {
        return now.sender.queuePast(v);
    }

    public boolean start(int how, int number) {
        return now.sender.begin(how, number);
    }

    public boolean direct(int what) {
        if (what == 0) {
            return now.sender.halt();
        }
        return what == 1 && now.sender.goOn();
    }

    public boolean renumber(int n) {
        return now.sender.countFrom(n);
    }

    public int take() {
        return now.receiver.handOver();
    }

    public int tick(int n) {
        if (!now.hasTimeFor(n)) {
            return NONE;
        }
        now.passTicks(n, false);
        return now.common.tick;
    }

    public boolean drop(boolean up, int i) {
        return now.wayOf(up).takeOff(i);
    }

    public boolean spoil(boolean up, int i, int k, int v) {
        return now.wayOf(up).putByte(i, k, v);
    }

    public int feed(int a, int b, int c, int d, int e) {
        if (!reader.hasRoom()) {
            return NONE;
        }
        reader.putFour(a);
        reader.putFour(b);
        reader.putFour(c);
        reader.putFour(d);
        reader.putFour(e);
        return reader.size;
    }

    public boolean end(int n) {
        if (n < 0 || n > reader.size) {
            return false;
        }
        reader.size = n;
        return true;
    }

    public int plan() {
        if (!reader.readAll()) {
            return NONE;
        }
        now.plan.copyFrom(reader.draft);
        return now.plan.count;
    }

    public int fault(int what) {
        switch (what) {
            case 0: return reader.fault;
            case 1: return reader.place;
            default: return NONE;
        }
    }

    public int run(int k) {
        if (k < 1 || k > PLAN_LINES) {
            return NONE;
        }
        int obeyed = 0;
        for (int i = 0; i < k && now.plan.done < now.plan.count; i++) {
            if (now.runNextLine()) {
                obeyed++;
            }
        }
        return obeyed;
    }

    public int sender(int what) {
        Sender s = now.sender;
        switch (what) {
            case 0: return s.machine;
            case 1: return s.number;
            case 2: return s.seen;
            case 3: return s.line.count;
            case 4: return s.sent.count;
            case 5: return s.sent.marked();
            case 6: return s.passing.count;
            case 7: return s.tries;
            case 8: return s.timer;
            case 9: return s.held;
            case 10: return s.directiveKind();
            default: return sentFrame(s.sent, what);
        }
    }

    private static int sentFrame(Row sent, int what) {
        if (what >= 100 && what < 100 + sent.count) {
            return sent.commands[what - 100];
        }
        if (what >= 200 && what < 200 + sent.count) {
            return sent.numbers[what - 200];
        }
        return NO_SUCH_PART;
    }

    public int receiver(int what) {
        Receiver r = now.receiver;
        switch (what) {
            case 0: return r.next;
            case 1: return r.locked ? 1 : 0;
            case 2: return r.waits ? 1 : 0;
            case 3: return r.resend ? 1 : 0;
            case 4: return r.count;
            case 5: return r.lying.count;
            case 6: return r.orderCount;
            case 7: return r.pastCount;
            default: return commandKept(r, what);
        }
    }

    private static int commandKept(Receiver r, int what) {
        int inOrder = Math.min(r.orderCount, Receiver.KEPT);
        if (what >= 100 && what < 100 + inOrder) {
            return r.order[what - 100];
        }
        int pastIt = Math.min(r.pastCount, Receiver.KEPT);
        if (what >= 200 && what < 200 + pastIt) {
            return r.pastOrder[what - 200];
        }
        return NO_SUCH_PART;
    }

    public int way(boolean up, int i, int k) {
        Way way = now.wayOf(up);
        if (i == NONE) {
            return way.count;
        }
        return k == NONE ? way.tickOf(i) : way.byteOf(i, k);
    }

    public int alarm(int i) {
        if (i == NONE) {
            return now.diary.alarmCount;
        }
        return now.diary.alarmAt(i);
    }

    public int told(int what, int i) {
        text.setLength(0);
        switch (what) {
            case 0: now.sender.tellReport(text); break;
            case 1: now.sender.tellSelf(text); break;
            case 2: now.receiver.tellSelf(text); break;
            case 3: text.append(alarmWord(now.diary.latestAlarm)); break;
            default: return NONE;
        }
        if (i == NONE) {
            return text.length();
        }
        return i >= 0 && i < text.length() ? text.charAt(i) : NONE;
    }

    public int judge(int machine, int how, int flags, int tries, int limit) {
        boolean can = isWithin(machine, ACTIVE, WAITING) && isWithin(how, STANDS_ALL, STANDS_SOME)
                && isWithin(flags, 0, WANTS_RESEND + WANTS_WAIT) && isWithin(tries, 0, 9)
                && isWithin(limit, 1, 9);
        return can ? Sender.verdictOf(machine, how, flags, tries, limit) : NONE;
    }

    public int verdicts(int v) {
        return v >= 0 && v < VERDICTS ? now.diary.verdictCounts[v] : NONE;
    }

    public int diary(int i, int what) {
        return i == NONE ? now.diary.count : now.diary.cell(i, what);
    }

    public int ledger(int i, int what) {
        return i == NONE ? now.ledger.count : now.ledger.cell(i, what);
    }

    public int delays(int what) {
        Ledger l = now.ledger;
        switch (what) {
            case 0: return l.howManyReach(Ledger.TAKEN, 1);
            case 1: return l.longestWait();
            case 2: return l.allWaits();
            case 3: return l.howManyReach(Ledger.TAKEN, 2);
            case 4: return l.howManyVanished();
            case 5: return l.howManyOvertaken();
            case 6: return l.howManyReach(Ledger.WENT, 2);
            default: return NONE;
        }
    }

    public int zone(int n) {
        return isNumber(n) ? now.receiver.zoneOf(n) : NONE;
    }

    public int fate(boolean up, int n) {
        return now.wayOf(up).doom(n);
    }

    public int truth(int what) {
        Sender s = now.sender;
        int next = now.receiver.next;
        switch (what) {
            case 0: return s.sent.nearer(s.seen, far(next, s.seen));
            case 1: return far(next, s.seen);
            case 2: return far(s.number, next);
            case 3: return now.ledger.inAll - s.line.count - s.sent.count;
            case 4: return now.ledger.inAll;
            default: return NONE;
        }
    }

    public int soon() {
        thought.copyFrom(now);
        thought.common.freeOfHurt();
        for (int ticks = 0; ticks <= SOON_TICKS; ticks++) {
            if (thought.sender.isIdle()) {
                return ticks;
            }
            // Only a directive leads out of OFF, and none is given in thought.
            if (thought.sender.machine == OFF) {
                return NONE;
            }
            thought.passTicks(1, true);
        }
        return NONE;
    }

    public int ways() {
        int found = 0;
        for (int w = 0; w < WAYS; w++) {
            if (leadsOut(w)) {
                found |= 1 << w;
            }
        }
        return found;
    }

    private boolean leadsOut(int w) {
        thought.copyFrom(now);
        thought.common.freeOfHurt();
        if (!thought.directed(w)) {
            return false;
        }
        thought.passTicks(WAYS_TICKS, true);
        return thought.isInStep();
    }

    public boolean image(boolean taken) {
        if (taken) {
            kept.copyFrom(now);
            hasImage = true;
            return true;
        }
        if (hasImage) {
            now.copyFrom(kept);
        }
        return hasImage;
    }

    public int look(int what) {
        if (what >= 1 && what <= SETTINGS) {
            return now.common.told[what - 1];
        }
        switch (what) {
            case 0: return now.common.tick;
            case 12: return now.common.draws;
            case 13: return now.up.went;
            case 14: return now.down.went;
            case 15: return now.up.hurt;
            case 16: return now.receiver.thrown;
            case 17: return now.sender.goodReports;
            case 18: return now.plan.count;
            case 19: return now.plan.done;
            default: return NO_SUCH_LOOK;
        }
    }

    /** How far n lies behind from, as the numbers go round. */
    private static int far(int n, int from) {
        return (n - from) & NUMBER_MOST;
    }

    private static boolean isWithin(int v, int least, int most) {
        return v >= least && v <= most;
    }

    private static boolean isNumber(int n) {
        return isWithin(n, 0, NUMBER_MOST);
    }

    private static boolean isCommand(int v) {
        return isWithin(v, 0, COMMAND_MOST);
    }

    private static String machineWord(int machine) {
        switch (machine) {
            case ACTIVE: return "ACTIVE";
            case RESENDS: return "RESENDS";
            case WAITING: return "WAITING";
            case CHECKS: return "CHECKS";
            case DIRECTS: return "DIRECTS";
            default: return "OFF";
        }
    }

    private static String alarmWord(int alarm) {
        switch (alarm) {
            case ALARM_LOCKED: return "LOCKED";
            case ALARM_STEP: return "STEP";
            case ALARM_NUMBER: return "NUMBER";
            case ALARM_REPORT: return "REPORT";
            case ALARM_LIMIT: return "LIMIT";
            case ALARM_STOP: return "STOP";
            default: return "";
        }
    }

    /** All that is kept by the image. */
    private static final class Link {
        final Common common = new Common();
        final Ledger ledger = new Ledger(common);
        final Diary diary = new Diary(common);
        final Receiver receiver = new Receiver(common, ledger);
        final Sender sender = new Sender(common, ledger, diary);
        final Way up = new Way(common, FRAME_BYTES, UP);
        final Way down = new Way(common, REPORT_BYTES, DOWN);
        final Plan plan = new Plan();

        Way wayOf(boolean upwards) {
            return upwards ? up : down;
        }

        boolean hasTimeFor(int n) {
            return isWithin(n, 1, TICKS_AT_ONCE) && common.tick + n <= TICK_MOST;
        }

        /** taking: all that lies at the receiver is TAKEN behind each TICK. */
        void passTicks(int n, boolean taking) {
            for (int t = 0; t < n; t++) {
                common.tick++;
                for (int i = 0; i < Way.MOST && up.isDue(); i++) {
                    receiver.meet(up);
                    up.takeOff(0);
                }
                if (common.isReportTime()) {
                    down.goes(receiver.reportWord(), NONE);
                }
                for (int i = 0; i < Way.MOST && down.isDue(); i++) {
                    sender.hear(down);
                    down.takeOff(0);
                }
                sender.runTimer();
                sender.haveTurn(up);
                for (int i = 0; taking && i < Row.MOST && receiver.lying.count > 0; i++) {
                    receiver.handOver();
                }
            }
        }

        /** Does what bit w of WAYS OUT stands for; false if it can't be done. */
        boolean directed(int w) {
            if (w == WAYS - 1) {
                return sender.goOn();
            }
            if (sender.machine != OFF) {
                sender.halt();
            }
            return sender.begin(w, receiver.next);
        }

        boolean isInStep() {
            return sender.machine == ACTIVE && !receiver.locked && sender.sent.count == 0
                    && sender.number == receiver.next;
        }

        /** Runs the next line of the plan; false if it is refused. */
        boolean runNextLine() {
            int at = plan.done;
            if (at < 0 || at >= plan.count) {
                return false;
            }
            plan.done++;
            int n = plan.numbers[at];
            switch (plan.words[at]) {
                case PLAN_SEND: return sender.queue(n) != NONE;
                case PLAN_PAST: return sender.queuePast(n) != NONE;
                case PLAN_START: return sender.begin(0, 0);
                case PLAN_CHECK: return sender.begin(1, 0);
                case PLAN_UNLOCK: return sender.begin(2, 0);
                case PLAN_SET: return sender.begin(3, n);
                case PLAN_STOP: return sender.halt();
                case PLAN_ON: return sender.goOn();
                case PLAN_RENUMBER: return sender.countFrom(n);
                case PLAN_TAKE: return receiver.handOver() != NONE;
                case PLAN_LOSE: return up.takeOff(up.count - 1);
                case PLAN_DROP: return down.takeOff(n - 1);
                default: break;
            }
            if (!hasTimeFor(n)) {
                return false;
            }
            passTicks(n, false);
            return true;
        }

        void copyFrom(Link other) {
            common.copyFrom(other.common);
            ledger.copyFrom(other.ledger);
            diary.copyFrom(other.diary);
            receiver.copyFrom(other.receiver);
            sender.copyFrom(other.sender);
            up.copyFrom(other.up);
            down.copyFrom(other.down);
            plan.copyFrom(other.plan);
        }
    }

    /** What every part of a link looks at: TICK, STATE of draws, the settings. */
    private static final class Common {
        int tick = 0;
        int draws = 0;
        final int[] told = SETTING_AT_FIRST.clone();

        int draw(int m) {
            draws = draws * 1664525 + 1013904223;
            return m > 0 ? (draws >>> 8) % m : 0;
        }

        boolean change(int what, int v) {
            if (what < 0 || what >= SETTINGS) {
                return false;
            }
            if (!isWithin(v, SETTING_LEAST[what], SETTING_MOST[what])) {
                return false;
            }
            if (what == W && v % 2 != 0) {
                return false;
            }
            if (what == LOSS && v + told[SPOILT] > HURT_MOST) {
                return false;
            }
            if (what == SPOILT && v + told[LOSS] > HURT_MOST) {
                return false;
            }
            told[what] = v;
            return true;
        }

        void freeOfHurt() {
            told[LOSS] = 0;
            told[SPOILT] = 0;
        }

        boolean isReportTime() {
            int period = told[PERIOD];
            return period > 0 && tick % period == 0;
        }

        void copyFrom(Common other) {
            tick = other.tick;
            draws = other.draws;
            System.arraycopy(other.told, 0, told, 0, SETTINGS);
        }
    }

    /** Commands in a row, the first first, each with its N, its line of the ledger, its mark. */
    private static final class Row {
        static final int MOST = 20;

        final int[] commands = new int[MOST];
        final int[] numbers = new int[MOST];
        final int[] lines = new int[MOST];
        final int[] marks = new int[MOST];
        int count = 0;

        void add(int command, int number, int line) {
            if (count >= MOST) {
                return;
            }
            commands[count] = command;
            numbers[count] = number;
            lines[count] = line;
            marks[count] = 0;
            count++;
        }

        void removeFirst(int n) {
            if (n <= 0 || n > count) {
                return;
            }
            count -= n;
            System.arraycopy(commands, n, commands, 0, count);
            System.arraycopy(numbers, n, numbers, 0, count);
            System.arraycopy(lines, n, lines, 0, count);
            System.arraycopy(marks, n, marks, 0, count);
        }

        void markAll() {
            for (int i = 0; i < count; i++) {
                marks[i] = 1;
            }
        }

        int marked() {
            int found = 0;
            for (int i = 0; i < count; i++) {
                found += marks[i];
            }
            return found;
        }

        int firstMarked() {
            for (int i = 0; i < count; i++) {
                if (marks[i] == 1) {
                    return i;
                }
            }
            return NONE;
        }

        /** How many lie nearer behind the number from than the distance. */
        int nearer(int from, int distance) {
            int found = 0;
            for (int i = 0; i < count; i++) {
                if (far(numbers[i], from) < distance) {
                    found++;
                }
            }
            return found;
        }

        void copyFrom(Row other) {
            count = other.count;
            System.arraycopy(other.commands, 0, commands, 0, MOST);
            System.arraycopy(other.numbers, 0, numbers, 0, MOST);
            System.arraycopy(other.lines, 0, lines, 0, MOST);
            System.arraycopy(other.marks, 0, marks, 0, MOST);
        }
    }

    /** One way of the channel: what is on it, first gone first, and the fates that wait there. */
    private static final class Way {
        /** One goes each TICK and comes 40 TICKS later at the latest: so many never meet. */
        static final int MOST = 48;
        static final int FATES = 8;
        static final int FATE_MOST = 99;

        final Common common;
        final int width;
        final int delay;
        final int[] bytes = new int[MOST * FRAME_BYTES];
        final int[] ticks = new int[MOST];
        final int[] lines = new int[MOST];
        final int[] fates = new int[FATES];
        int count = 0;
        int fateCount = 0;
        int went = 0;
        int hurt = 0;

        /** width: how many bytes one has; delay: which setting tells its TICKS. */
        Way(Common common, int width, int delay) {
            this.common = common;
            this.width = width;
            this.delay = delay;
        }

        boolean has(int i) {
            return i >= 0 && i < count && i < MOST;
        }

        boolean hasByte(int i, int k) {
            return i >= 0 && i < count && i < MOST && k >= 0 && k < width;
        }

        boolean isDue() {
            return count > 0 && ticks[0] <= common.tick;
        }

        int tickOf(int i) {
            return has(i) ? ticks[i] : NONE;
        }

        int byteOf(int i, int k) {
            return hasByte(i, k) ? bytes[i * FRAME_BYTES + k] : NONE;
        }

        int lineOf(int i) {
            return has(i) ? lines[i] : NONE;
        }

        boolean putByte(int i, int k, int v) {
            if (!hasByte(i, k) || !isWithin(v, 0, 255)) {
                return false;
            }
            bytes[i * FRAME_BYTES + k] = v;
            return true;
        }

        boolean takeOff(int i) {
            if (!has(i)) {
                return false;
            }
            count--;
            int behind = count - i;
            System.arraycopy(ticks, i + 1, ticks, i, behind);
            System.arraycopy(lines, i + 1, lines, i, behind);
            System.arraycopy(bytes, (i + 1) * FRAME_BYTES, bytes, i * FRAME_BYTES,
                    behind * FRAME_BYTES);
            return true;
        }

        /** The n-th from now on is lost: how many fates there are then, or NONE. */
        int doom(int n) {
            if (!isWithin(n, 1, FATE_MOST) || fateCount >= FATES) {
                return NONE;
            }
            for (int i = 0; i < fateCount; i++) {
                if (fates[i] == went + n) {
                    return NONE;
                }
            }
            fates[fateCount] = went + n;
            fateCount++;
            return fateCount;
        }

        private boolean meetsFate() {
            for (int i = 0; i < fateCount; i++) {
                if (fates[i] == went) {
                    fateCount--;
                    fates[i] = fates[fateCount];
                    return true;
                }
            }
            return false;
        }

        /** One goes: word has its bytes but CHECK, the first highest; line is its ledger line. */
        void goes(int word, int line) {
            went++;
            if (meetsFate()) {
                hurt++;
                return;
            }
            int drawn = common.draw(100);
            int loss = common.told[LOSS];
            if (drawn < loss) {
                hurt++;
                return;
            }
            if (count >= MOST) {
                return;
            }
            put(word, line);
            if (drawn < loss + common.told[SPOILT]) {
                hurt++;
                int at = (count - 1) * FRAME_BYTES + common.draw(width);
                bytes[at] = (bytes[at] + 1) & 255;
            }
        }

        private void put(int word, int line) {
            int at = count * FRAME_BYTES;
            int check = CHECK_START;
            for (int k = 0; k < width - 1; k++) {
                int b = (word >>> (8 * (width - 2 - k))) & 255;
                bytes[at + k] = b;
                check += b;
            }
            bytes[at + width - 1] = check & 255;
            ticks[count] = common.tick + common.told[delay];
            lines[count] = line;
            count++;
        }

        void copyFrom(Way other) {
            count = other.count;
            fateCount = other.fateCount;
            went = other.went;
            hurt = other.hurt;
            System.arraycopy(other.bytes, 0, bytes, 0, MOST * FRAME_BYTES);
            System.arraycopy(other.ticks, 0, ticks, 0, MOST);
            System.arraycopy(other.lines, 0, lines, 0, MOST);
            System.arraycopy(other.fates, 0, fates, 0, FATES);
        }
    }

    /** The receiver: takes commands in order alone. */
    private static final class Receiver {
        static final int KEPT = 100;

        final Common common;
        final Ledger ledger;
        int next = 0;
        boolean locked = false;
        boolean waits = false;
        boolean resend = false;
        int count = 0;
        final Row lying = new Row();
        final int[] order = new int[KEPT];
        int orderCount = 0;
        final int[] pastOrder = new int[KEPT];
        int pastCount = 0;
        int thrown = 0;

        Receiver(Common common, Ledger ledger) {
            this.common = common;
            this.ledger = ledger;
        }

        /** The first FRAME on the way comes. */
        void meet(Way up) {
            int kind = up.byteOf(0, 0);
            int n = up.byteOf(0, 1);
            int high = up.byteOf(0, 2);
            int low = up.byteOf(0, 3);
            int sum = kind + n + high + low + CHECK_START;
            if ((sum & 255) != up.byteOf(0, 4) || !isGood(kind, high, low)) {
                thrown++;
                return;
            }
            if (kind == KIND_ORDER) {
                meetInOrder(n, 256 * high + low, up.lineOf(0));
                return;
            }
            count = (count + 1) & 3;
            if (kind == KIND_PAST) {
                keepPast(256 * high + low);
            } else {
                obey(high, low);
            }
        }

        private static boolean isGood(int kind, int high, int low) {
            if (kind == KIND_DIRECTIVE) {
                return high <= 1;
            }
            return kind < KIND_DIRECTIVE && isCommand(256 * high + low);
        }

        private void keepPast(int command) {
            if (pastCount < KEPT) {
                pastOrder[pastCount] = command;
            }
            pastCount++;
        }

        private void obey(int high, int low) {
            boolean unlocks = high == 0;
            if (!unlocks && locked) {
                return;
            }
            waits = false;
            resend = false;
            if (unlocks) {
                locked = false;
            } else {
                next = low;
            }
        }

        private void meetInOrder(int n, int command, int line) {
            int zone = locked ? NONE : zoneOf(n);
            if (zone == ZONE_NEXT && !waits && lying.count < common.told[ROOM]) {
                takeIn(command, line);
                return;
            }
            thrown++;
            if (zone == ZONE_OUTSIDE) {
                locked = true;
            }
            if (waits) {
                return;
            }
            if (zone == ZONE_NEXT) {
                waits = true;
                resend = true;
            }
            if (zone == ZONE_AHEAD) {
                resend = true;
            }
        }

        private void takeIn(int command, int line) {
            lying.add(command, next, line);
            if (orderCount < KEPT) {
                order[orderCount] = command;
            }
            orderCount++;
            next = (next + 1) & NUMBER_MOST;
            resend = false;
            ledger.noteTakenIn(line);
        }

        int zoneOf(int n) {
            int half = common.told[W] / 2;
            int distance = far(n, next);
            if (distance == 0) {
                return ZONE_NEXT;
            }
            if (distance < half) {
                return ZONE_AHEAD;
            }
            return distance >= NUMBER_MOST + 1 - half ? ZONE_BEHIND : ZONE_OUTSIDE;
        }

        /** The first that lies there is TAKEN; NONE if none does. */
        int handOver() {
            if (lying.count == 0) {
                return NONE;
            }
            int command = lying.commands[0];
            lying.removeFirst(1);
            waits = false;
            return command;
        }

        /** FLAGS and N as one number. */
        int reportWord() {
            int flags = 8 * count;
            if (locked) {
                flags += FLAG_LOCKED;
            }
            if (waits) {
                flags += FLAG_WAITS;
            }
            if (resend) {
                flags += FLAG_RESEND;
            }
            return flags << 8 | next;
        }

        void tellSelf(StringBuilder to) {
            to.append(locked ? "LOCKED" : waits ? "WAIT" : "OPEN");
            to.append(' ');
            to.append(next);
            if (resend) {
                to.append('R');
            }
        }

        void copyFrom(Receiver other) {
            next = other.next;
            locked = other.locked;
            waits = other.waits;
            resend = other.resend;
            count = other.count;
            lying.copyFrom(other.lying);
            System.arraycopy(other.order, 0, order, 0, KEPT);
            orderCount = other.orderCount;
            System.arraycopy(other.pastOrder, 0, pastOrder, 0, KEPT);
            pastCount = other.pastCount;
            thrown = other.thrown;
        }
    }

    /** The sender: a machine of six states. */
    private static final class Sender {
        static final int LINE_MOST = 8;
        static final int PASSING_MOST = 4;
        /** A directive as its bytes HIGH and LOW in one number; a set has its number in LOW. */
        static final int UNLOCK = 0;
        static final int SET = 256;
        /** The latest report as its bytes FLAGS and N in one number, or one of these. */
        static final int NO_REPORT = -1;
        static final int BAD_REPORT = -2;

        final Common common;
        final Ledger ledger;
        final Diary diary;
        final Row line = new Row();
        final Row sent = new Row();
        final Row passing = new Row();
        int machine = OFF;
        int number = 0;
        int seen = 0;
        int tries = 0;
        int timer = 0;
        int held = 0;
        int directive = NONE;
        boolean directiveMarked = false;
        int report = NO_REPORT;
        int goodReports = 0;

        Sender(Common common, Ledger ledger, Diary diary) {
            this.common = common;
            this.ledger = ledger;
            this.diary = diary;
        }

        int queue(int command) {
            if (!isCommand(command) || machine > WAITING || line.count >= LINE_MOST) {
                return NONE;
            }
            line.add(command, 0, ledger.open(command));
            return line.count;
        }

        int queuePast(int command) {
            if (!isCommand(command) || passing.count >= PASSING_MOST) {
                return NONE;
            }
            passing.add(command, 0, NONE);
            return passing.count;
        }

        /** START. */
        boolean begin(int how, int n) {
            if (machine != OFF || !isWithin(how, 0, 3) || (how == 3 && !isNumber(n))) {
                return false;
            }
            ledger.lose(line);
            ledger.lose(sent);
            held = 0;
            if (how == 3) {
                number = n;
            }
            seen = number;
            tries = 1;
            timer = how == 0 ? 0 : common.told[PATIENCE];
            directive = how == 2 ? UNLOCK : how == 3 ? SET + n : NONE;
            directiveMarked = directive != NONE;
            machine = diary.change(machine, how == 0 ? ACTIVE : how == 1 ? CHECKS : DIRECTS);
            return true;
        }

        /** STOP. */
        boolean halt() {
            if (machine == OFF && held == 0) {
                return false;
            }
            giveAlarm(ALARM_STOP);
            return true;
        }

        /** GO ON. */
        boolean goOn() {
            if (held == 0) {
                return false;
            }
            machine = diary.change(machine, held);
            held = 0;
            if (machine == CHECKS) {
                timer = common.told[PATIENCE];
                return true;
            }
            if (machine != DIRECTS) {
                machine = diary.change(machine, sent.count > 0 ? RESENDS : ACTIVE);
            }
            tries = 0;
            markAll();
            if (machine == ACTIVE) {
                timer = 0;
            }
            return true;
        }

        /** RENUMBER. */
        boolean countFrom(int n) {
            if (machine != OFF || held != 0 || !isNumber(n)) {
                return false;
            }
            number = n;
            seen = n;
            return true;
        }

        private void giveAlarm(int alarm) {
            machine = diary.change(machine, OFF);
            ledger.lose(line);
            ledger.lose(sent);
            directive = NONE;
            directiveMarked = false;
            timer = 0;
            held = 0;
            diary.noteAlarm(alarm);
        }

        private void markAll() {
            if (machine == DIRECTS) {
                directiveMarked = true;
            } else {
                sent.markAll();
            }
            tries++;
            timer = common.told[PATIENCE];
        }

        /** TIMER has run out, and there are no tries left. */
        private void giveUp() {
            if (common.told[MANNER] == 0) {
                giveAlarm(ALARM_LIMIT);
                return;
            }
            held = machine;
            machine = diary.change(machine, OFF);
            timer = 0;
        }

        void runTimer() {
            if (timer == 0) {
                return;
            }
            timer--;
            if (timer > 0) {
                return;
            }
            if (machine == CHECKS || tries >= common.told[LIMIT]) {
                giveUp();
            } else if (machine == WAITING) {
                timer = common.told[PATIENCE];
            } else {
                markAll();
            }
        }

        /** THE TURN. */
        void haveTurn(Way up) {
            if (passing.count > 0) {
                up.goes(KIND_PAST << 24 | passing.commands[0], NONE);
                passing.removeFirst(1);
                return;
            }
            if (machine == DIRECTS) {
                if (directiveMarked) {
                    directiveMarked = false;
                    up.goes(KIND_DIRECTIVE << 24 | directive, NONE);
                }
                return;
            }
            if (machine != ACTIVE && machine != RESENDS) {
                return;
            }
            int i = sent.firstMarked();
            if (i == NONE) {
                i = makeNewFrame();
            }
            if (i != NONE) {
                sent.marks[i] = 0;
                ledger.noteWent(sent.lines[i]);
                up.goes(KIND_ORDER << 24 | sent.numbers[i] << 16 | sent.commands[i], sent.lines[i]);
            }
        }

        /** The first of LINE comes behind SENT: its place there; NONE if none may. */
        private int makeNewFrame() {
            if (line.count == 0 || sent.count >= common.told[K] || sent.count >= Row.MOST) {
                return NONE;
            }
            if (sent.count == 0) {
                tries = 1;
            }
            timer = common.told[PATIENCE];
            sent.add(line.commands[0], number, line.lines[0]);
            line.removeFirst(1);
            number = (number + 1) & NUMBER_MOST;
            return sent.count - 1;
        }

        /** The first REPORT on the way comes. */
        void hear(Way down) {
            int flags = down.byteOf(0, 0);
            int n = down.byteOf(0, 1);
            if (((flags + n + CHECK_START) & 255) != down.byteOf(0, 2) || flags > FLAGS_MOST) {
                report = BAD_REPORT;
                return;
            }
            report = flags << 8 | n;
            goodReports++;
            if (machine == OFF) {
                return;
            }
            if ((flags & FLAG_LOCKED) != 0) {
                hearLocked();
                return;
            }
            int wants = ((flags & FLAG_RESEND) != 0 ? WANTS_RESEND : 0)
                    + ((flags & FLAG_WAITS) != 0 ? WANTS_WAIT : 0);
            if (machine == CHECKS) {
                hearChecking(n, wants);
            } else if (machine == DIRECTS) {
                hearDirecting(n, wants);
            } else if (far(n, seen) > far(number, seen)) {
                giveAlarm(ALARM_NUMBER);
            } else {
                followTable(n, wants);
            }
        }

        private void hearLocked() {
            if (machine != DIRECTS || directive != UNLOCK) {
                giveAlarm(ALARM_LOCKED);
            }
        }

        /** SEEN is NUMBER in this state: any other number lies outside, which is the same alarm. */
        private void hearChecking(int n, int wants) {
            if (n != number || (wants & WANTS_RESEND) != 0) {
                giveAlarm(ALARM_STEP);
            } else if (wants == 0) {
                machine = diary.change(machine, ACTIVE);
                timer = 0;
            }
        }

        private void hearDirecting(int n, int wants) {
            if (n == number && wants == 0) {
                machine = diary.change(machine, ACTIVE);
                directive = NONE;
                directiveMarked = false;
                timer = 0;
            }
        }

        private int standingOf(int n) {
            if (n == number) {
                return STANDS_ALL;
            }
            return n == seen ? STANDS_NONE : STANDS_SOME;
        }

        static int verdictOf(int machine, int how, int wants, int tries, int limit) {
            boolean resend = (wants & WANTS_RESEND) != 0;
            boolean wait = (wants & WANTS_WAIT) != 0;
            if (how == STANDS_ALL) {
                return wants == 0 ? VERDICT_ALL_GONE : VERDICT_REPORT;
            }
            if (wait && !resend) {
                return VERDICT_REPORT;
            }
            if (!resend) {
                if (how == STANDS_SOME) {
                    return VERDICT_SOME_GONE;
                }
                return machine == ACTIVE ? VERDICT_NOTHING : VERDICT_STEP;
            }
            if (limit == 1) {
                return VERDICT_LIMIT;
            }
            if (how == STANDS_SOME) {
                return VERDICT_MARKED;
            }
            if (machine == ACTIVE) {
                return tries >= limit ? VERDICT_LIMIT : VERDICT_MARKED;
            }
            if (machine == RESENDS) {
                return wait ? VERDICT_WAITING : VERDICT_NOTHING;
            }
            return wait ? VERDICT_NOTHING : VERDICT_RESENDS;
        }

        private void followTable(int n, int wants) {
            int how = standingOf(n);
            int verdict = verdictOf(machine, how, wants, tries, common.told[LIMIT]);
            diary.noteVerdict(verdict);
            if (verdict == VERDICT_REPORT) {
                giveAlarm(ALARM_REPORT);
                return;
            }
            if (verdict == VERDICT_STEP) {
                giveAlarm(ALARM_STEP);
                return;
            }
            ledger.letGo(sent, far(n, seen));
            if (verdict == VERDICT_LIMIT) {
                giveAlarm(ALARM_LIMIT);
                return;
            }
            seen = n;
            if (verdict == VERDICT_MARKED) {
                if (how == STANDS_SOME) {
                    tries = 0;
                }
                markAll();
            } else if (verdict == VERDICT_ALL_GONE) {
                timer = 0;
            } else if (verdict == VERDICT_SOME_GONE) {
                tries = 1;
                timer = common.told[PATIENCE];
            }
            machine = diary.change(machine, machineBehind(verdict, (wants & WANTS_WAIT) != 0));
        }

        /** The MACHINE that a verdict without an alarm leads to. */
        private int machineBehind(int verdict, boolean wait) {
            switch (verdict) {
                case VERDICT_ALL_GONE: return ACTIVE;
                case VERDICT_SOME_GONE: return ACTIVE;
                case VERDICT_MARKED: return wait ? WAITING : RESENDS;
                case VERDICT_WAITING: return WAITING;
                case VERDICT_RESENDS: return RESENDS;
                default: return machine;
            }
        }

        boolean isIdle() {
            return machine == ACTIVE && line.count == 0 && sent.count == 0;
        }

        int directiveKind() {
            if (directive == NONE) {
                return NONE;
            }
            return directive == UNLOCK ? 0 : 1;
        }

        void tellReport(StringBuilder to) {
            if (report == NO_REPORT) {
                return;
            }
            if (report == BAD_REPORT) {
                to.append('?');
                return;
            }
            int flags = report >>> 8;
            to.append((flags & FLAG_LOCKED) != 0 ? 'L' : '-');
            to.append((flags & FLAG_WAITS) != 0 ? 'W' : '-');
            to.append((flags & FLAG_RESEND) != 0 ? 'R' : '-');
            to.append(flags >>> 3);
            to.append(' ');
            to.append(report & NUMBER_MOST);
        }

        void tellSelf(StringBuilder to) {
            to.append(machineWord(machine));
            to.append(' ');
            to.append(sent.count);
            to.append('/');
            to.append(common.told[K]);
            to.append(" #");
            to.append(number);
            if (held != 0) {
                to.append(" HELD ");
                to.append(machineWord(held));
            }
        }

        void copyFrom(Sender other) {
            line.copyFrom(other.line);
            sent.copyFrom(other.sent);
            passing.copyFrom(other.passing);
            machine = other.machine;
            number = other.number;
            seen = other.seen;
            tries = other.tries;
            timer = other.timer;
            held = other.held;
            directive = other.directive;
            directiveMarked = other.directiveMarked;
            report = other.report;
            goodReports = other.goodReports;
        }
    }

    /** What became of each command that came onto LINE. */
    private static final class Ledger {
        static final int MOST = 100;
        static final int CELLS = 7;
        static final int COMMAND = 0;
        static final int CAME = 1;
        static final int WENT = 2;
        static final int WENT_FIRST = 3;
        static final int TAKEN = 4;
        static final int TAKEN_FIRST = 5;
        static final int STANDS = 6;

        final Common common;
        final int[] cells = new int[MOST * CELLS];
        int count = 0;
        /** Of each line taken in, which in turn it was: one TICK may take in several. */
        final int[] turns = new int[MOST];
        int turnCount = 0;
        /** How many came onto LINE in all, those without a line here too. */
        int inAll = 0;

        Ledger(Common common) {
            this.common = common;
        }

        boolean has(int i) {
            return i >= 0 && i < count && i < MOST;
        }

        int cell(int i, int what) {
            if (!has(i) || what < 0 || what >= CELLS) {
                return NONE;
            }
            return cells[i * CELLS + what];
        }

        /** A line for a command that comes onto LINE; NONE if there are no more lines. */
        int open(int command) {
            inAll++;
            if (count >= MOST) {
                return NONE;
            }
            int at = count * CELLS;
            cells[at + COMMAND] = command;
            cells[at + CAME] = common.tick;
            cells[at + WENT] = 0;
            cells[at + WENT_FIRST] = NONE;
            cells[at + TAKEN] = 0;
            cells[at + TAKEN_FIRST] = NONE;
            cells[at + STANDS] = IN_LINE;
            count++;
            return count - 1;
        }

        void noteWent(int i) {
            if (!has(i)) {
                return;
            }
            int at = i * CELLS;
            if (cells[at + WENT] == 0) {
                cells[at + WENT_FIRST] = common.tick;
            }
            cells[at + WENT]++;
            cells[at + STANDS] = IN_SENT;
        }

        void noteTakenIn(int i) {
            if (!has(i)) {
                return;
            }
            int at = i * CELLS;
            if (cells[at + TAKEN] == 0) {
                cells[at + TAKEN_FIRST] = common.tick;
                turns[i] = turnCount;
                turnCount++;
            }
            cells[at + TAKEN]++;
        }

        /** All of the row are gone by an ALARM or a START. */
        void lose(Row row) {
            for (int i = 0; i < row.count; i++) {
                int line = row.lines[i];
                if (line >= 0 && line < MOST) {
                    cells[line * CELLS + STANDS] = GONE_BY_ALARM;
                }
            }
            row.count = 0;
        }

        /** The first n of SENT are gone by a REPORT. */
        void letGo(Row sent, int n) {
            for (int i = 0; i < n && i < sent.count; i++) {
                int line = sent.lines[i];
                if (line >= 0 && line < MOST) {
                    cells[line * CELLS + STANDS] = GONE_BY_REPORT;
                }
            }
            sent.removeFirst(Math.min(n, sent.count));
        }

        int howManyReach(int what, int least) {
            int found = 0;
            for (int i = 0; i < count; i++) {
                if (cell(i, what) >= least) {
                    found++;
                }
            }
            return found;
        }

        /** From its TICK till line i was taken in first; NONE if it was not. */
        private int waitOf(int i) {
            int first = cell(i, TAKEN_FIRST);
            return first == NONE ? NONE : first - cell(i, CAME);
        }

        int longestWait() {
            int longest = NONE;
            for (int i = 0; i < count; i++) {
                longest = Math.max(longest, waitOf(i));
            }
            return longest;
        }

        int allWaits() {
            int sum = 0;
            for (int i = 0; i < count; i++) {
                sum += Math.max(0, waitOf(i));
            }
            return sum;
        }

        int howManyVanished() {
            int found = 0;
            for (int i = 0; i < count; i++) {
                if (cell(i, STANDS) == GONE_BY_REPORT && cell(i, TAKEN) == 0) {
                    found++;
                }
            }
            return found;
        }

        /** How many were taken in first behind one of a later line. */
        int howManyOvertaken() {
            int found = 0;
            int earliestLater = turnCount;
            for (int i = Math.min(count, MOST) - 1; i >= 0; i--) {
                if (cell(i, TAKEN) == 0) {
                    continue;
                }
                if (turns[i] > earliestLater) {
                    found++;
                }
                earliestLater = Math.min(earliestLater, turns[i]);
            }
            return found;
        }

        void copyFrom(Ledger other) {
            count = other.count;
            inAll = other.inAll;
            turnCount = other.turnCount;
            System.arraycopy(other.turns, 0, turns, 0, MOST);
            System.arraycopy(other.cells, 0, cells, 0, MOST * CELLS);
        }
    }

    /** The changes of MACHINE, the alarms, and how often each verdict came. */
    private static final class Diary {
        static final int MOST = 80;
        static final int CELLS = 3;
        static final int ALARMS = 60;

        final Common common;
        final int[] cells = new int[MOST * CELLS];
        int count = 0;
        final int[] alarms = new int[ALARMS];
        int alarmCount = 0;
        int latestAlarm = 0;
        final int[] verdictCounts = new int[VERDICTS];

        Diary(Common common) {
            this.common = common;
        }

        /** Notes the change, if it is one, and answers the MACHINE behind it. */
        int change(int from, int to) {
            if (from != to && count < MOST) {
                int at = count * CELLS;
                cells[at] = common.tick;
                cells[at + 1] = from;
                cells[at + 2] = to;
                count++;
            }
            return to;
        }

        int cell(int i, int what) {
            if (i < 0 || i >= count || i >= MOST || what < 0 || what >= CELLS) {
                return NONE;
            }
            return cells[i * CELLS + what];
        }

        void noteAlarm(int alarm) {
            if (alarmCount < ALARMS) {
                alarms[alarmCount] = alarm;
            }
            alarmCount++;
            latestAlarm = alarm;
        }

        int alarmAt(int i) {
            return i >= 0 && i < alarmCount && i < ALARMS ? alarms[i] : NONE;
        }

        void noteVerdict(int verdict) {
            if (verdict >= 0 && verdict < VERDICTS) {
                verdictCounts[verdict]++;
            }
        }

        void copyFrom(Diary other) {
            count = other.count;
            System.arraycopy(other.cells, 0, cells, 0, MOST * CELLS);
            System.arraycopy(other.alarms, 0, alarms, 0, ALARMS);
            alarmCount = other.alarmCount;
            latestAlarm = other.latestAlarm;
            System.arraycopy(other.verdictCounts, 0, verdictCounts, 0, VERDICTS);
        }
    }

    /** A plan: the word and the number of each line, and how many were run. */
    private static final class Plan {
        final int[] words = new int[PLAN_LINES];
        final int[] numbers = new int[PLAN_LINES];
        int count = 0;
        int done = 0;

        void clear() {
            count = 0;
            done = 0;
        }

        void add(int word, int number) {
            if (count < PLAN_LINES) {
                words[count] = word;
                numbers[count] = number;
                count++;
            }
        }

        void copyFrom(Plan other) {
            System.arraycopy(other.words, 0, words, 0, PLAN_LINES);
            System.arraycopy(other.numbers, 0, numbers, 0, PLAN_LINES);
            count = other.count;
            done = other.done;
        }
    }

    /** The TAPE, and what reads a plan from it. */
    private static final class Reader {
        static final int TAPE_MOST = 400;
        static final int FED_AT_ONCE = 20;
        static final int DIGITS_MOST = 4;

        static final int TOKEN_END = 0;
        static final int TOKEN_WORD = 1;
        static final int TOKEN_NUMBER = 2;
        static final int TOKEN_SEMICOLON = 3;
        static final int TOKEN_NONE = 4;

        static final int FAULT_TOKEN = 1;
        static final int FAULT_BOUNDS = 2;
        static final int FAULT_LINES = 3;

        final int[] tape = new int[TAPE_MOST];
        int size = 0;
        /** The plan as it is read: the link's own stays as it was, if there is a fault. */
        final Plan draft = new Plan();
        int fault = 0;
        int place = NONE;

        /** The latest token: its kind, where it begins and ends, which word or number it is. */
        private int token = TOKEN_END;
        private int from = 0;
        private int behind = 0;
        private int value = 0;

        boolean hasRoom() {
            return size + FED_AT_ONCE <= TAPE_MOST;
        }

        void putFour(int four) {
            for (int shift = 24; shift >= 0 && size < TAPE_MOST; shift -= 8) {
                tape[size] = (four >>> shift) & 255;
                size++;
            }
        }

        /** Reads the TAPE, which is empty then; false if there is a fault. */
        boolean readAll() {
            draft.clear();
            fault = 0;
            place = NONE;
            behind = 0;
            // One line more than there may be, to come upon the fault of that one.
            for (int i = 0; i <= PLAN_LINES; i++) {
                nextToken();
                if (token == TOKEN_END) {
                    break;
                }
                readLine();
                if (fault != 0) {
                    break;
                }
            }
            size = 0;
            return fault == 0;
        }

        private void readLine() {
            if (token != TOKEN_WORD) {
                noteFault(FAULT_TOKEN);
                return;
            }
            if (draft.count >= PLAN_LINES) {
                noteFault(FAULT_LINES);
                return;
            }
            int word = value;
            int number = 0;
            nextToken();
            if (mostOf(word) != NONE) {
                if (token != TOKEN_NUMBER) {
                    noteFault(FAULT_TOKEN);
                    return;
                }
                if (!isWithin(value, leastOf(word), mostOf(word))) {
                    noteFault(FAULT_BOUNDS);
                    return;
                }
                number = value;
                nextToken();
            }
            if (token != TOKEN_SEMICOLON) {
                noteFault(FAULT_TOKEN);
                return;
            }
            draft.add(word, number);
        }

        private void noteFault(int what) {
            fault = what;
            place = from;
        }

        private void nextToken() {
            from = behind;
            while (from < size && isBlank(tape[from])) {
                from++;
            }
            behind = from;
            if (from >= size) {
                token = TOKEN_END;
            } else if (isLetter(tape[from])) {
                readWord();
            } else if (isDigit(tape[from])) {
                readNumber();
            } else {
                token = tape[from] == ';' ? TOKEN_SEMICOLON : TOKEN_NONE;
                behind++;
            }
        }

        private void readWord() {
            while (behind < size && isLetter(tape[behind])) {
                behind++;
            }
            token = TOKEN_NONE;
            for (int word = 0; word < PLAN_WORDS; word++) {
                if (isTokenText(planWord(word))) {
                    token = TOKEN_WORD;
                    value = word;
                }
            }
        }

        private boolean isTokenText(String word) {
            if (word.length() != behind - from) {
                return false;
            }
            for (int i = 0; i < word.length(); i++) {
                if (tape[from + i] != word.charAt(i)) {
                    return false;
                }
            }
            return true;
        }

        private void readNumber() {
            value = 0;
            while (behind < size && isDigit(tape[behind])) {
                // Longer rows of digits are no NUMBER: what they come to is never asked.
                value = (value * 10 + tape[behind] - '0') & 0xFFFF;
                behind++;
            }
            token = behind - from <= DIGITS_MOST ? TOKEN_NUMBER : TOKEN_NONE;
        }

        private static boolean isBlank(int c) {
            return c == 32 || c == 10;
        }

        private static boolean isLetter(int c) {
            return isWithin(c, 'a', 'z') || isWithin(c, 'A', 'Z');
        }

        private static boolean isDigit(int c) {
            return isWithin(c, '0', '9');
        }

        private static int leastOf(int word) {
            return word == PLAN_TICK || word == PLAN_DROP ? 1 : 0;
        }

        /** The highest number that may stand behind the word; NONE if none may. */
        private static int mostOf(int word) {
            switch (word) {
                case PLAN_SEND: return COMMAND_MOST;
                case PLAN_PAST: return COMMAND_MOST;
                case PLAN_SET: return NUMBER_MOST;
                case PLAN_RENUMBER: return NUMBER_MOST;
                case PLAN_TICK: return TICKS_AT_ONCE;
                case PLAN_DROP: return TICKS_AT_ONCE;
                default: return NONE;
            }
        }

        private static String planWord(int word) {
            switch (word) {
                case PLAN_SEND: return "send";
                case PLAN_PAST: return "past";
                case PLAN_START: return "start";
                case PLAN_CHECK: return "check";
                case PLAN_UNLOCK: return "unlock";
                case PLAN_SET: return "set";
                case PLAN_STOP: return "stop";
                case PLAN_ON: return "on";
                case PLAN_RENUMBER: return "renumber";
                case PLAN_TAKE: return "take";
                case PLAN_TICK: return "tick";
                case PLAN_LOSE: return "lose";
                default: return "drop";
            }
        }
    }
}
