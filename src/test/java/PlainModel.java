import java.util.ArrayList;
import java.util.Arrays;
import java.util.List;

/**
 * A second CommandLink, written from the document once more and in another way (objects, lists,
 * deep copies), for RandomRunsTest to compare with. It is slow and it throws for nothing.
 */
public final class PlainModel {
    private static final String[] MACHINES = {"", "ACTIVE", "RESENDS", "WAITING", "CHECKS", "DIRECTS", "OFF"};
    private static final String[] ALARMS = {"", "LOCKED", "STEP", "NUMBER", "REPORT", "LIMIT", "STOP"};
    private static final List<String> BARE = List.of("start", "check", "unlock", "stop", "on", "take", "lose");
    private static final List<String> WITH_V = List.of("send", "past");
    private static final List<String> WITH_N = List.of("set", "renumber");
    private static final List<String> WITH_K = List.of("tick", "drop");

    private static final class Entry {
        int command;
        int tick;
        int went;
        int wentFirst = -1;
        int taken;
        int takenFirst = -1;
        int takenTurn = -1;
        int stands;

        Entry copy() {
            Entry e = new Entry();
            e.command = command;
            e.tick = tick;
            e.went = went;
            e.wentFirst = wentFirst;
            e.taken = taken;
            e.takenFirst = takenFirst;
            e.takenTurn = takenTurn;
            e.stands = stands;
            return e;
        }
    }

    /** A command in LINE or SENT, or a packet on its way; entry is its place in the ledger. */
    private static final class Item {
        int command;
        int n;
        boolean marked;
        int entry = -1;
        int[] bytes;
        int due;

        Item copy() {
            Item i = new Item();
            i.command = command;
            i.n = n;
            i.marked = marked;
            i.entry = entry;
            i.bytes = bytes == null ? null : bytes.clone();
            i.due = due;
            return i;
        }
    }

    private static final class World {
        int state;
        int tick;
        int w = 10, room = 3, k = 3, limit = 3, patience = 12, manner, up = 3, down = 3, loss, spoilt, period = 4;
        int next, locked, waits, resend, count;
        List<Integer> lying = new ArrayList<>();
        List<Integer> order = new ArrayList<>();
        List<Integer> past = new ArrayList<>();
        int machine = 6, number, seen, tries, timer, held;
        List<Item> line = new ArrayList<>();
        List<Item> sent = new ArrayList<>();
        List<Integer> passing = new ArrayList<>();
        int[] directive;
        boolean directiveMarked;
        List<Item> ups = new ArrayList<>();
        List<Item> downs = new ArrayList<>();
        List<Integer> upFates = new ArrayList<>();
        List<Integer> downFates = new ArrayList<>();
        int framesWent, reportsWent, framesHurt, framesThrown, reportsGood, sentInAll;
        String report = "";
        List<Integer> alarms = new ArrayList<>();
        int[] verdicts = new int[9];
        List<int[]> diary = new ArrayList<>();
        List<Entry> ledger = new ArrayList<>();
        List<String[]> plan = new ArrayList<>();
        int planDone;

        World copy() {
            World c = new World();
            c.state = state;
            c.tick = tick;
            c.w = w;
            c.room = room;
            c.k = k;
            c.limit = limit;
            c.patience = patience;
            c.manner = manner;
            c.up = up;
            c.down = down;
            c.loss = loss;
            c.spoilt = spoilt;
            c.period = period;
            c.next = next;
            c.locked = locked;
            c.waits = waits;
            c.resend = resend;
            c.count = count;
            c.lying = new ArrayList<>(lying);
            c.order = new ArrayList<>(order);
            c.past = new ArrayList<>(past);
            c.machine = machine;
            c.number = number;
            c.seen = seen;
            c.tries = tries;
            c.timer = timer;
            c.held = held;
            c.line = copies(line);
            c.sent = copies(sent);
            c.passing = new ArrayList<>(passing);
            c.directive = directive == null ? null : directive.clone();
            c.directiveMarked = directiveMarked;
            c.ups = copies(ups);
            c.downs = copies(downs);
            c.upFates = new ArrayList<>(upFates);
            c.downFates = new ArrayList<>(downFates);
            c.framesWent = framesWent;
            c.reportsWent = reportsWent;
            c.framesHurt = framesHurt;
            c.framesThrown = framesThrown;
            c.reportsGood = reportsGood;
            c.sentInAll = sentInAll;
            c.report = report;
            c.alarms = new ArrayList<>(alarms);
            c.verdicts = verdicts.clone();
            c.diary = new ArrayList<>(diary);
            for (Entry e : ledger) {
                c.ledger.add(e.copy());
            }
            c.plan = new ArrayList<>(plan);
            c.planDone = planDone;
            return c;
        }

        private static List<Item> copies(List<Item> items) {
            List<Item> c = new ArrayList<>();
            for (Item i : items) {
                c.add(i.copy());
            }
            return c;
        }

        int draw(int m) {
            state = 1664525 * state + 1013904223;
            return (int) (((state & 0xFFFFFFFFL) >> 8) % m);
        }

        void machineIs(int to) {
            if (machine != to && diary.size() < 80) {
                diary.add(new int[] {tick, machine, to});
            }
            machine = to;
        }

        void emptyLineAndSent() {
            for (Item i : line) {
                stands(i, 3);
            }
            for (Item i : sent) {
                stands(i, 3);
            }
            line.clear();
            sent.clear();
        }

        void stands(Item i, int how) {
            if (i.entry >= 0) {
                ledger.get(i.entry).stands = how;
            }
        }

        void alarm(int a) {
            machineIs(6);
            emptyLineAndSent();
            directive = null;
            timer = 0;
            held = 0;
            alarms.add(a);
        }

        void mark() {
            if (machine == 5) {
                directiveMarked = true;
            } else {
                for (Item i : sent) {
                    i.marked = true;
                }
            }
            tries++;
            timer = patience;
        }

        int send(int v) {
            if (v < 0 || v > 9999 || machine < 1 || machine > 3 || line.size() == 8) {
                return -1;
            }
            Item i = new Item();
            i.command = v;
            sentInAll++;
            if (ledger.size() < 100) {
                Entry e = new Entry();
                e.command = v;
                e.tick = tick;
                i.entry = ledger.size();
                ledger.add(e);
            }
            line.add(i);
            return line.size();
        }

        int past(int v) {
            if (v < 0 || v > 9999 || passing.size() == 4) {
                return -1;
            }
            passing.add(v);
            return passing.size();
        }

        boolean start(int how, int n) {
            if (machine != 6 || how < 0 || how > 3) {
                return false;
            }
            if (how == 3 && (n < 0 || n > 255)) {
                return false;
            }
            emptyLineAndSent();
            held = 0;
            if (how == 0) {
                machineIs(1);
            }
            if (how == 1) {
                machineIs(4);
                timer = patience;
            }
            if (how == 0 || how == 1) {
                tries = 1;
                directive = null;
                directiveMarked = false;
            }
            if (how == 2 || how == 3) {
                directive = how == 2 ? new int[] {2, 0, 0, 0} : new int[] {2, 0, 1, n};
                directiveMarked = true;
                machineIs(5);
                tries = 1;
                timer = patience;
            }
            if (how == 3) {
                number = n;
            }
            seen = number;
            return true;
        }

        boolean stop() {
            if (machine == 6 && held == 0) {
                return false;
            }
            alarm(6);
            return true;
        }

        boolean goOn() {
            if (held == 0) {
                return false;
            }
            machineIs(held);
            held = 0;
            if (machine <= 3) {
                machineIs(sent.isEmpty() ? 1 : 2);
                mark();
                tries = 1;
                if (sent.isEmpty()) {
                    timer = 0;
                }
            } else if (machine == 4) {
                timer = patience;
            } else {
                tries = 0;
                mark();
            }
            return true;
        }

        boolean renumber(int n) {
            if (n < 0 || n > 255 || machine != 6 || held != 0) {
                return false;
            }
            number = n;
            seen = n;
            return true;
        }

        int take() {
            if (lying.isEmpty()) {
                return -1;
            }
            waits = 0;
            return lying.remove(0);
        }

        void put(boolean upward, int[] bytes, int entry) {
            int nth;
            if (upward) {
                nth = ++framesWent;
            } else {
                nth = ++reportsWent;
            }
            List<Integer> fates = upward ? upFates : downFates;
            if (fates.remove((Integer) nth)) {
                if (upward) {
                    framesHurt++;
                }
                return;
            }
            int[] all = Arrays.copyOf(bytes, bytes.length + 1);
            all[bytes.length] = (Arrays.stream(bytes).sum() + 85) % 256;
            int d = draw(100);
            boolean lost = d < loss;
            boolean spoils = !lost && d < loss + spoilt;
            if (upward && (lost || spoils)) {
                framesHurt++;
            }
            if (lost) {
                return;
            }
            if (spoils) {
                int k = draw(all.length);
                all[k] = (all[k] + 1) % 256;
            }
            Item i = new Item();
            i.bytes = all;
            i.entry = entry;
            i.due = tick + (upward ? up : down);
            (upward ? ups : downs).add(i);
        }

        void tick() {
            tick++;
            while (!ups.isEmpty() && ups.get(0).due <= tick) {
                frameComes(ups.remove(0));
            }
            if (tick % period == 0) {
                put(false, new int[] {locked + 2 * waits + 4 * resend + 8 * count, next}, -1);
            }
            while (!downs.isEmpty() && downs.get(0).due <= tick) {
                reportComes(downs.remove(0).bytes);
            }
            timer();
            turn();
        }

        void frameComes(Item i) {
            int[] b = i.bytes;
            int command = 256 * b[2] + b[3];
            boolean good = (b[0] + b[1] + b[2] + b[3] + 85) % 256 == b[4] && b[0] <= 2
                    && (b[0] == 2 ? b[2] <= 1 : command <= 9999);
            if (!good) {
                framesThrown++;
            } else if (b[0] == 1) {
                past.add(command);
                count = (count + 1) % 4;
            } else if (b[0] == 2 && b[2] == 0) {
                count = (count + 1) % 4;
                locked = 0;
                waits = 0;
                resend = 0;
            } else if (b[0] == 2) {
                count = (count + 1) % 4;
                if (locked == 0) {
                    waits = 0;
                    resend = 0;
                    next = b[3];
                }
            } else if (!takesIn(b[1], command, i.entry)) {
                framesThrown++;
            }
        }

        boolean takesIn(int n, int command, int entry) {
            if (locked == 1) {
                return false;
            }
            switch (zone(n)) {
                case 0:
                    if (waits == 1) {
                        return false;
                    }
                    if (lying.size() >= room) {
                        resend = 1;
                        waits = 1;
                        return false;
                    }
                    lying.add(command);
                    order.add(command);
                    next = (next + 1) % 256;
                    resend = 0;
                    if (entry >= 0) {
                        Entry e = ledger.get(entry);
                        e.taken++;
                        e.takenFirst = e.takenFirst < 0 ? tick : e.takenFirst;
                        e.takenTurn = e.takenTurn < 0 ? order.size() : e.takenTurn;
                    }
                    return true;
                case 1:
                    if (waits == 0) {
                        resend = 1;
                    }
                    return false;
                case 2:
                    return false;
                default:
                    locked = 1;
                    return false;
            }
        }

        int zone(int n) {
            int far = Math.floorMod(n - next, 256);
            if (far == 0) {
                return 0;
            }
            if (far <= w / 2 - 1) {
                return 1;
            }
            return far >= 256 - w / 2 ? 2 : 3;
        }

        void reportComes(int[] b) {
            if ((b[0] + b[1] + 85) % 256 != b[2] || b[0] > 31) {
                report = "?";
                return;
            }
            boolean isLocked = b[0] % 2 == 1;
            boolean isWaits = b[0] / 2 % 2 == 1;
            boolean isResend = b[0] / 4 % 2 == 1;
            report = (isLocked ? "L" : "-") + (isWaits ? "W" : "-") + (isResend ? "R" : "-") + b[0] / 8 + " " + b[1];
            reportsGood++;
            if (machine == 6) {
                return;
            }
            boolean unlocks = machine == 5 && directive[2] == 0;
            if (isLocked) {
                if (!unlocks) {
                    alarm(1);
                }
                return;
            }
            int n = b[1];
            if (Math.floorMod(n - seen, 256) > Math.floorMod(number - seen, 256)) {
                if (machine != 5) {
                    alarm(machine == 4 ? 2 : 3);
                }
                return;
            }
            if (machine == 4) {
                if (isResend) {
                    alarm(2);
                } else if (!isWaits) {
                    if (n == number) {
                        machineIs(1);
                        timer = 0;
                    } else {
                        alarm(2);
                    }
                }
            } else if (machine == 5) {
                if (!isResend && !isWaits && n == number) {
                    machineIs(1);
                    directive = null;
                    timer = 0;
                }
            } else {
                table(n, isResend, isWaits);
            }
        }

        void goneAhead(int n) {
            while (!sent.isEmpty() && sent.get(0).n != n) {
                stands(sent.remove(0), 2);
            }
        }

        void table(int n, boolean isResend, boolean isWaits) {
            int how = n == number ? 0 : n == seen ? 1 : 2;
            int verdict = verdict(machine, how, isResend, isWaits, tries, limit);
            verdicts[verdict]++;
            if (isResend && how != 0) {
                goneAhead(n);
            }
            switch (verdict) {
                case 1: goneAhead(n); machineIs(1); timer = 0; break;
                case 2: goneAhead(n); machineIs(1); tries = 1; timer = patience; break;
                case 3:
                    tries = how == 2 ? 0 : tries;
                    mark();
                    machineIs(isWaits ? 3 : 2);
                    break;
                case 4: machineIs(3); break;
                case 5: machineIs(2); break;
                case 6: alarm(5); return;
                case 7: alarm(4); return;
                case 8: alarm(2); return;
                default: break;
            }
            seen = n;
        }

        static int verdict(int machine, int how, boolean isResend, boolean isWaits, int tries, int limit) {
            if (how == 0 && !isResend && !isWaits) {
                return 1;
            }
            if (how == 0 || isWaits && !isResend) {
                return 7;
            }
            if (!isResend && how == 1) {
                return machine == 1 ? 0 : 8;
            }
            if (!isResend) {
                return 2;
            }
            if (limit == 1) {
                return 6;
            }
            if (how == 2) {
                return 3;
            }
            switch (machine) {
                case 1: return tries >= limit ? 6 : 3;
                case 2: return isWaits ? 4 : 0;
                default: return isWaits ? 0 : 5;
            }
        }

        void timer() {
            if (timer == 0 || --timer > 0) {
                return;
            }
            boolean spent = machine == 4 || tries >= limit;
            if (spent && manner == 0) {
                alarm(5);
            } else if (spent) {
                held = machine;
                machineIs(6);
                timer = 0;
            } else if (machine == 3) {
                timer = patience;
            } else {
                mark();
            }
        }

        void turn() {
            if (!passing.isEmpty()) {
                int v = passing.remove(0);
                put(true, new int[] {1, 0, v / 256, v % 256}, -1);
                return;
            }
            if (machine == 5 && directiveMarked) {
                directiveMarked = false;
                put(true, directive, -1);
            }
            if (machine != 1 && machine != 2) {
                return;
            }
            for (Item i : sent) {
                if (i.marked) {
                    goes(i);
                    return;
                }
            }
            if (!line.isEmpty() && sent.size() < k) {
                if (sent.isEmpty()) {
                    tries = 1;
                }
                timer = patience;
                Item i = line.remove(0);
                i.n = number;
                number = (number + 1) % 256;
                sent.add(i);
                stands(i, 1);
                goes(i);
            }
        }

        void goes(Item i) {
            i.marked = false;
            if (i.entry >= 0) {
                Entry e = ledger.get(i.entry);
                e.went++;
                e.wentFirst = e.wentFirst < 0 ? tick : e.wentFirst;
            }
            put(true, new int[] {0, i.n, i.command / 256, i.command % 256}, i.entry);
        }

        boolean drop(boolean upward, int i) {
            List<Item> way = upward ? ups : downs;
            if (i < 0 || i >= way.size()) {
                return false;
            }
            way.remove(i);
            return true;
        }

        int ticks(int n) {
            if (n < 1 || n > 60 || tick + n > 9999) {
                return -1;
            }
            for (int i = 0; i < n; i++) {
                tick();
            }
            return tick;
        }

        void thoughtTick() {
            tick();
            while (take() >= 0) {
                continue;
            }
        }

        boolean runLine(String[] words) {
            int v = words.length > 1 ? Integer.parseInt(words[1]) : 0;
            switch (words[0]) {
                case "send": return send(v) >= 0;
                case "past": return past(v) >= 0;
                case "start": return start(0, 0);
                case "check": return start(1, 0);
                case "unlock": return start(2, 0);
                case "set": return start(3, v);
                case "stop": return stop();
                case "on": return goOn();
                case "renumber": return renumber(v);
                case "take": return take() >= 0;
                case "tick": return ticks(v) >= 0;
                case "lose": return drop(true, ups.size() - 1);
                default: return drop(false, v - 1);
            }
        }
    }

    private World x = new World();
    private World image = null;
    private StringBuilder tape = new StringBuilder();
    private int fault = 0;
    private int faultPlace = -1;

    public int state(int v) {
        int was = x.state;
        x.state = v;
        return was;
    }

    public boolean set(int what, int v) {
        switch (what) {
            case 0: if (v < 2 || v > 200 || v % 2 == 1) return false; x.w = v; return true;
            case 1: if (v < 0 || v > 8) return false; x.room = v; return true;
            case 2: if (v < 1 || v > 20) return false; x.k = v; return true;
            case 3: if (v < 1 || v > 9) return false; x.limit = v; return true;
            case 4: if (v < 1 || v > 99) return false; x.patience = v; return true;
            case 5: if (v < 0 || v > 1) return false; x.manner = v; return true;
            case 6: if (v < 1 || v > 40) return false; x.up = v; return true;
            case 7: if (v < 1 || v > 40) return false; x.down = v; return true;
            case 8: if (v < 0 || v > 90 - x.spoilt) return false; x.loss = v; return true;
            case 9: if (v < 0 || v > 90 - x.loss) return false; x.spoilt = v; return true;
            case 10: if (v < 1 || v > 20) return false; x.period = v; return true;
            default: return false;
        }
    }

    public int send(int v) {
        return x.send(v);
    }

    public int past(int v) {
        return x.past(v);
    }

    public boolean start(int how, int number) {
        return x.start(how, number);
    }

    public boolean direct(int what) {
        return what == 0 ? x.stop() : what == 1 ? x.goOn() : false;
    }

    public boolean renumber(int n) {
        return x.renumber(n);
    }

    public int take() {
        return x.take();
    }

    public int tick(int n) {
        return x.ticks(n);
    }

    public boolean drop(boolean up, int i) {
        return x.drop(up, i);
    }

    public boolean spoil(boolean up, int i, int k, int v) {
        List<Item> way = up ? x.ups : x.downs;
        if (i < 0 || i >= way.size() || k < 0 || k >= way.get(i).bytes.length || v < 0 || v > 255) {
            return false;
        }
        way.get(i).bytes[k] = v;
        return true;
    }

    public int feed(int a, int b, int c, int d, int e) {
        if (tape.length() > 380) {
            return -1;
        }
        for (int v : new int[] {a, b, c, d, e}) {
            for (int shift = 24; shift >= 0; shift -= 8) {
                tape.append((char) (v >> shift & 255));
            }
        }
        return tape.length();
    }

    public boolean end(int n) {
        if (n < 0 || n > tape.length()) {
            return false;
        }
        tape.setLength(n);
        return true;
    }

    public int plan() {
        String text = tape.toString();
        tape.setLength(0);
        List<String> tokens = new ArrayList<>();
        List<Integer> places = new ArrayList<>();
        tokenize(text, tokens, places);
        List<String[]> lines = new ArrayList<>();
        fault = 0;
        faultPlace = -1;
        int at = 0;
        while (at < tokens.size() - 1) {
            String word = tokens.get(at);
            boolean bare = BARE.contains(word);
            if (!bare && !WITH_V.contains(word) && !WITH_N.contains(word) && !WITH_K.contains(word)) {
                return faulty(1, places.get(at));
            }
            if (lines.size() == 24) {
                return faulty(3, places.get(at));
            }
            at++;
            String[] line = {word};
            if (!bare) {
                String number = tokens.get(at);
                if (!number.matches("[0-9]{1,4}")) {
                    return faulty(1, places.get(at));
                }
                int v = Integer.parseInt(number);
                if (WITH_N.contains(word) && v > 255 || WITH_K.contains(word) && (v < 1 || v > 60)) {
                    return faulty(2, places.get(at));
                }
                line = new String[] {word, number};
                at++;
            }
            if (!tokens.get(at).equals(";")) {
                return faulty(1, places.get(at));
            }
            at++;
            lines.add(line);
        }
        x.plan = lines;
        x.planDone = 0;
        return lines.size();
    }

    private int faulty(int what, int place) {
        fault = what;
        faultPlace = place;
        return -1;
    }

    /** The last token is the empty one, at the end. */
    private static void tokenize(String text, List<String> tokens, List<Integer> places) {
        java.util.regex.Matcher m = java.util.regex.Pattern.compile("[a-zA-Z]+|[0-9]+|[^ \n]").matcher(text);
        while (m.find()) {
            tokens.add(m.group());
            places.add(m.start());
        }
        tokens.add("");
        places.add(text.length());
    }

    public int fault(int what) {
        return what == 0 ? fault : what == 1 ? faultPlace : -1;
    }

    public int run(int k) {
        if (k < 1 || k > 24) {
            return -1;
        }
        int done = 0;
        for (int i = 0; i < k && x.planDone < x.plan.size(); i++) {
            if (x.runLine(x.plan.get(x.planDone++))) {
                done++;
            }
        }
        return done;
    }

    public int sender(int what) {
        if (what >= 100 && what < 100 + x.sent.size()) {
            return x.sent.get(what - 100).command;
        }
        if (what >= 200 && what < 200 + x.sent.size()) {
            return x.sent.get(what - 200).n;
        }
        switch (what) {
            case 0: return x.machine;
            case 1: return x.number;
            case 2: return x.seen;
            case 3: return x.line.size();
            case 4: return x.sent.size();
            case 5: return (int) x.sent.stream().filter(i -> i.marked).count();
            case 6: return x.passing.size();
            case 7: return x.tries;
            case 8: return x.timer;
            case 9: return x.held;
            case 10: return x.directive == null ? -1 : x.directive[2];
            default: return -2;
        }
    }

    public int receiver(int what) {
        if (what >= 100 && what < 200 && what - 100 < x.order.size()) {
            return x.order.get(what - 100);
        }
        if (what >= 200 && what < 300 && what - 200 < x.past.size()) {
            return x.past.get(what - 200);
        }
        switch (what) {
            case 0: return x.next;
            case 1: return x.locked;
            case 2: return x.waits;
            case 3: return x.resend;
            case 4: return x.count;
            case 5: return x.lying.size();
            case 6: return x.order.size();
            case 7: return x.past.size();
            default: return -2;
        }
    }

    public int way(boolean up, int i, int k) {
        List<Item> way = up ? x.ups : x.downs;
        if (i == -1) {
            return way.size();
        }
        if (i < 0 || i >= way.size()) {
            return -1;
        }
        if (k == -1) {
            return way.get(i).due;
        }
        return k < 0 || k >= (up ? 5 : 3) ? -1 : way.get(i).bytes[k];
    }

    public int alarm(int i) {
        if (i == -1) {
            return x.alarms.size();
        }
        return i < 0 || i >= Math.min(60, x.alarms.size()) ? -1 : x.alarms.get(i);
    }

    public int told(int what, int i) {
        String text;
        switch (what) {
            case 0: text = x.report; break;
            case 1:
                text = MACHINES[x.machine] + " " + x.sent.size() + "/" + x.k + " #" + x.number
                        + (x.held == 0 ? "" : " HELD " + MACHINES[x.held]);
                break;
            case 2:
                text = (x.locked == 1 ? "LOCKED" : x.waits == 1 ? "WAIT" : "OPEN") + " " + x.next
                        + (x.resend == 1 ? "R" : "");
                break;
            case 3: text = x.alarms.isEmpty() ? "" : ALARMS[x.alarms.get(x.alarms.size() - 1)]; break;
            default: return -1;
        }
        if (i == -1) {
            return text.length();
        }
        return i < 0 || i >= text.length() ? -1 : text.charAt(i);
    }

    public int judge(int machine, int how, int flags, int tries, int limit) {
        if (machine < 1 || machine > 3 || how < 0 || how > 2 || flags < 0 || flags > 3
                || tries < 0 || tries > 9 || limit < 1 || limit > 9) {
            return -1;
        }
        return World.verdict(machine, how, flags % 2 == 1, flags / 2 == 1, tries, limit);
    }

    public int verdicts(int v) {
        return v < 0 || v > 8 ? -1 : x.verdicts[v];
    }

    public int diary(int i, int what) {
        if (i == -1) {
            return x.diary.size();
        }
        return i < 0 || i >= x.diary.size() || what < 0 || what > 2 ? -1 : x.diary.get(i)[what];
    }

    public int ledger(int i, int what) {
        if (i == -1) {
            return x.ledger.size();
        }
        if (i < 0 || i >= x.ledger.size()) {
            return -1;
        }
        Entry e = x.ledger.get(i);
        switch (what) {
            case 0: return e.command;
            case 1: return e.tick;
            case 2: return e.went;
            case 3: return e.wentFirst;
            case 4: return e.taken;
            case 5: return e.takenFirst;
            case 6: return e.stands;
            default: return -1;
        }
    }

    public int delays(int what) {
        int[] d = {0, -1, 0, 0, 0, 0, 0};
        for (int i = 0; i < x.ledger.size(); i++) {
            Entry e = x.ledger.get(i);
            if (e.taken > 0) {
                d[0]++;
                d[1] = Math.max(d[1], e.takenFirst - e.tick);
                d[2] += e.takenFirst - e.tick;
            }
            if (e.taken > 1) {
                d[3]++;
            }
            if (e.stands == 2 && e.taken == 0) {
                d[4]++;
            }
            boolean overtaken = false;
            for (Entry later : x.ledger.subList(i + 1, x.ledger.size())) {
                overtaken |= e.taken > 0 && later.taken > 0 && later.takenTurn < e.takenTurn;
            }
            d[5] += overtaken ? 1 : 0;
            if (e.went > 1) {
                d[6]++;
            }
        }
        return what < 0 || what > 6 ? -1 : d[what];
    }

    public int zone(int n) {
        return n < 0 || n > 255 ? -1 : x.zone(n);
    }

    public int fate(boolean up, int n) {
        List<Integer> fates = up ? x.upFates : x.downFates;
        int nth = (up ? x.framesWent : x.reportsWent) + n;
        if (n < 1 || n > 99 || fates.size() == 8 || fates.contains(nth)) {
            return -1;
        }
        fates.add(nth);
        return fates.size();
    }

    public int truth(int what) {
        int nextFar = Math.floorMod(x.next - x.seen, 256);
        switch (what) {
            case 0: return (int) x.sent.stream().filter(i -> Math.floorMod(i.n - x.seen, 256) < nextFar).count();
            case 1: return nextFar;
            case 2: return Math.floorMod(x.number - x.next, 256);
            case 3: return x.sentInAll - x.line.size() - x.sent.size();
            case 4: return x.sentInAll;
            default: return -1;
        }
    }

    private static World lossless(World from) {
        World t = from.copy();
        t.loss = 0;
        t.spoilt = 0;
        return t;
    }

    public int soon() {
        World t = lossless(x);
        for (int i = 0; i <= 400; i++) {
            if (t.machine == 1 && t.line.isEmpty() && t.sent.isEmpty()) {
                return i;
            }
            t.thoughtTick();
        }
        return -1;
    }

    public int ways() {
        int set = 0;
        for (int way = 0; way < 5; way++) {
            World t = lossless(x);
            boolean done;
            if (way == 4) {
                done = t.goOn();
            } else {
                if (t.machine != 6) {
                    t.stop();
                }
                done = t.start(way, t.next);
            }
            for (int i = 0; i < 100; i++) {
                t.thoughtTick();
            }
            if (done && t.machine == 1 && t.locked == 0 && t.sent.isEmpty() && t.number == t.next) {
                set += 1 << way;
            }
        }
        return set;
    }

    public boolean image(boolean taken) {
        if (taken) {
            image = x.copy();
        } else if (image != null) {
            x = image.copy();
        }
        return image != null;
    }

    public int look(int what) {
        switch (what) {
            case 0: return x.tick;
            case 1: return x.w;
            case 2: return x.room;
            case 3: return x.k;
            case 4: return x.limit;
            case 5: return x.patience;
            case 6: return x.manner;
            case 7: return x.up;
            case 8: return x.down;
            case 9: return x.loss;
            case 10: return x.spoilt;
            case 11: return x.period;
            case 12: return x.state;
            case 13: return x.framesWent;
            case 14: return x.reportsWent;
            case 15: return x.framesHurt;
            case 16: return x.framesThrown;
            case 17: return x.reportsGood;
            case 18: return x.plan.size();
            case 19: return x.planDone;
            default: return -100000;
        }
    }
}
