/** What many tests ask of a link, in one call. */
final class Ask {
    private Ask() {
    }

    /** TEXT what as a String. */
    static String text(CommandLink x, int what) {
        StringBuilder s = new StringBuilder();
        int length = x.told(what, CommandLink.NONE);
        for (int i = 0; i < length; i++) {
            s.append((char) x.told(what, i));
        }
        return s.toString();
    }

    /** Puts the text behind the TAPE, which must be empty. */
    static void feed(CommandLink x, String text) {
        for (int at = 0; at < text.length(); at += 20) {
            int[] five = new int[5];
            for (int k = 0; k < 20 && at + k < text.length(); k++) {
                five[k / 4] |= text.charAt(at + k) << (24 - 8 * (k % 4));
            }
            x.feed(five[0], five[1], five[2], five[3], five[4]);
        }
        x.end(text.length());
    }

    /** plan() of the text. */
    static int plan(CommandLink x, String text) {
        feed(x, text);
        return x.plan();
    }

    /** Plans and runs the text: how many lines were not refused. */
    static int run(CommandLink x, String text) {
        return plan(x, text) == CommandLink.NONE ? CommandLink.NONE : x.run(24);
    }

    /** The FRAME (REPORT) i on its way gets byte k and a CHECK that is good again. */
    static void forge(CommandLink x, boolean up, int i, int k, int v) {
        int last = up ? 4 : 2;
        x.spoil(up, i, k, v);
        int sum = 85;
        for (int b = 0; b < last; b++) {
            sum += x.way(up, i, b);
        }
        x.spoil(up, i, last, sum & 255);
    }

    /** Replaces what report i on its way says. */
    static void forgeReport(CommandLink x, int i, int flags, int n) {
        forge(x, false, i, 0, flags);
        forge(x, false, i, 1, n);
    }

    /** MACHINE 1 with `commands` of them SENT, and one REPORT alone on its way, which is next. */
    static CommandLink withReport(int commands, int flags, int n) {
        return withReportFrom(0, commands, flags, n);
    }

    /** The same, with this NUMBER at first. */
    static CommandLink withReportFrom(int first, int commands, int flags, int n) {
        CommandLink x = new CommandLink();
        x.renumber(first);
        x.set(0, 200);
        x.set(1, 8);
        x.set(2, 20);
        x.set(4, 99);
        x.set(10, 20);
        x.set(6, 40);
        x.set(7, 1);
        x.start(0, 0);
        x.tick(10);
        for (int v = 0; v < commands; v++) {
            x.send(100 + v);
            x.tick(1);
        }
        x.tick(10 - commands);
        forgeReport(x, 0, flags, n);
        return x;
    }

    /** All bytes of FRAME (REPORT) i on its way, with blanks. */
    static String bytes(CommandLink x, boolean up, int i) {
        StringBuilder s = new StringBuilder();
        for (int k = 0; k < (up ? 5 : 3); k++) {
            s.append(k == 0 ? "" : " ").append(x.way(up, i, k));
        }
        return s.toString();
    }

    /** Lines of the diary as TICK:from>to, with blanks. */
    static String diary(CommandLink x) {
        StringBuilder s = new StringBuilder();
        int lines = x.diary(CommandLink.NONE, 0);
        for (int i = 0; i < lines; i++) {
            s.append(i == 0 ? "" : " ").append(x.diary(i, 0)).append(':').append(x.diary(i, 1));
            s.append('>').append(x.diary(i, 2));
        }
        return s.toString();
    }

    /** Line i of the ledger, with blanks. */
    static String ledger(CommandLink x, int i) {
        StringBuilder s = new StringBuilder();
        for (int what = 0; what < 7; what++) {
            s.append(what == 0 ? "" : " ").append(x.ledger(i, what));
        }
        return s.toString();
    }

    /** A link on which a FRAME comes a TICK behind that at which it went, and REPORTS seldom go. */
    static CommandLink quick() {
        CommandLink x = new CommandLink();
        x.set(6, 1);
        x.set(10, 20);
        x.set(4, 99);
        x.set(2, 20);
        x.start(0, 0);
        return x;
    }

    /** A FRAME of these bytes with a CHECK that is good comes; UP must be 1. */
    static void comes(CommandLink x, int kind, int n, int high, int low) {
        comesWith(x, kind, n, high, low, kind + n + high + low + 85 & 255);
    }

    static void comesWith(CommandLink x, int kind, int n, int high, int low, int check) {
        x.past(0);
        x.tick(1);
        int last = x.way(true, -1, 0) - 1;
        int[] bytes = {kind, n, high, low, check};
        for (int k = 0; k < bytes.length; k++) {
            x.spoil(true, last, k, bytes[k]);
        }
        x.tick(1);
    }

    /** STATE from which the next DRAW makes this one. */
    static int stateAhead(int next) {
        int inverse = 1;
        for (int bits = 0; bits < 5; bits++) {
            inverse *= 2 - 1664525 * inverse;
        }
        return (next - 1013904223) * inverse;
    }

    /** Answers to some three hundred questions: all that there is to see of a link that has little. */
    static String everything(CommandLink x) {
        StringBuilder s = new StringBuilder();
        for (int what = 0; what < 20; what++) {
            s.append(x.look(what)).append(' ');
        }
        for (int what = 0; what < 11; what++) {
            s.append(x.sender(what)).append(' ');
        }
        for (int what = 0; what < 8; what++) {
            s.append(x.receiver(what)).append(' ');
        }
        for (int what = 0; what < 4; what++) {
            s.append(text(x, what)).append(' ');
        }
        for (int what = 0; what < 9; what++) {
            s.append(x.verdicts(what)).append(' ').append(x.delays(what)).append(' ').append(x.truth(what)).append(' ');
        }
        int lines = Math.min(6, x.ledger(-1, 0));
        for (int i = 0; i < lines; i++) {
            s.append(ledger(x, i)).append(' ');
        }
        for (int i = 0; i < 4; i++) {
            s.append(bytes(x, true, i)).append(' ').append(x.way(true, i, -1)).append(' ').append(bytes(x, false, i));
            s.append(' ').append(x.way(false, i, -1)).append(' ').append(x.sender(100 + i)).append(' ');
            s.append(x.sender(200 + i)).append(' ').append(x.receiver(100 + i)).append(' ').append(x.receiver(200 + i));
            s.append(' ').append(x.alarm(i)).append(' ');
        }
        s.append(x.way(true, -1, 0)).append(' ').append(x.way(false, -1, 0)).append(' ').append(x.ledger(-1, 0));
        s.append(' ').append(x.zone(0)).append(' ').append(x.fault(0)).append(' ').append(x.fault(1)).append(' ');
        return s.append(diary(x)).append(' ').append(x.alarm(-1)).toString();
    }
}
