/** The edges that the document names in promises 13 (feed), 14 (end), 15 (plan), 16 (fault), 17 (run). */
public final class EdgesOf13To17Test {
    private static final Due DUE = new Due("EdgesOf13To17Test", 13, 17);
    private static final Refused REFUSED = new Refused(DUE);
    private static final int MIN = Integer.MIN_VALUE;
    private static final int MAX = Integer.MAX_VALUE;
    private static final int BLANKS = 0x20202020;
    private static final String[] BARE = {"start", "check", "unlock", "stop", "on", "take", "lose"};
    private static final String[] WITH_NUMBER = {"send", "past", "set", "renumber", "tick", "drop"};
    private static final int[] LEAST = {0, 0, 0, 0, 1, 1};
    private static final int[] MOST = {9999, 9999, 255, 255, 60, 60};

    public static void main(String[] args) {
        tapeOf400();
        tapeBeyond400();
        highestByteFirst();
        everyByteIsKept();
        endsThatCanBe();
        endsThatCantBe();
        endThenFeed();
        emptyPlans();
        eachByteAlone();
        lettersStandTogether();
        digitsStandTogether();
        blanksBetween();
        eachWordByItself();
        wordsThatAreNone();
        numbersOfOneToFourDigits();
        numbersWithinTheirBounds();
        numbersBeyondTheirBounds();
        whatCantStandThere();
        theEnd();
        theFirstByItsPlace();
        linesOf24();
        the25thLine();
        planOf400Bytes();
        faultEmptiesTheTape();
        faultKeepsThePlan();
        planAtItsBeginning();
        whatsOfFault();
        runsThatCanBe();
        runsThatCantBe();
        runToTheEndOfThePlan();
        runOfNoPlan();
        eachLineRefused();
        linesAsIfCalled();
        dropCountsFromOne();
        loseDropsTheLatest();
        tickInAPlanAt9999();
        DUE.end();
    }

    private static int feedBlanks(CommandLink x) {
        return x.feed(BLANKS, BLANKS, BLANKS, BLANKS, BLANKS);
    }

    private static CommandLink withTape(int bytes) {
        CommandLink x = new CommandLink();
        for (int size = 20; size < bytes + 20; size += 20) {
            feedBlanks(x);
        }
        x.end(bytes);
        return x;
    }

    /** "Twenty bytes come behind the TAPE ..: how many it has. NONE .. if there would be more than 400." */
    private static void tapeOf400() {
        CommandLink x = new CommandLink();
        for (int size = 20; size <= 400; size += 20) {
            DUE.is("13 how many it has", size, feedBlanks(x));
        }
        DUE.is("13 380 and 20", 400, feedBlanks(withTape(380)));
        DUE.is("13 379 and 20", 399, feedBlanks(withTape(379)));
        DUE.is("13 0 and 20", 20, feedBlanks(withTape(0)));
        DUE.is("13 1 and 20", 21, feedBlanks(withTape(1)));
    }

    private static void tapeBeyond400() {
        for (int size : new int[] {381, 382, 399, 400}) {
            REFUSED.noneIn("13 " + size + " and 20", () -> withTape(size), x -> x.feed(1, 2, 3, 4, 5));
            CommandLink x = withTape(size);
            feedBlanks(x);
            DUE.is("13 nothing comes behind " + size, false, x.end(size + 1));
            DUE.is("13 it has " + size + " still", true, x.end(size));
        }
    }

    /** "of each number the highest first". */
    private static void highestByteFirst() {
        CommandLink x = new CommandLink();
        x.feed(0x74616B65, 0x3B73656E, 0x64203939, 0x39393B6F, 0x6E3B2020);
        DUE.is("13 take;send 9999;on;", 3, x.plan());
        for (int place = 0; place < 20; place++) {
            int[] five = {BLANKS, BLANKS, BLANKS, BLANKS, BLANKS};
            five[place / 4] ^= (' ' ^ '!') << 24 - 8 * (place % 4);
            CommandLink y = new CommandLink();
            y.feed(five[0], five[1], five[2], five[3], five[4]);
            y.plan();
            DUE.is("13 the sign at " + place, place, y.fault(1));
        }
    }

    /** Numbers without a bound: -1 is four bytes of 255, the lowest int 128 and three of 0. */
    private static void everyByteIsKept() {
        for (int number : new int[] {-1, MIN, MAX, 0, 1}) {
            CommandLink x = new CommandLink();
            DUE.is("13 " + number + " can be", 20, x.feed(number, number, number, number, number));
            DUE.is("13 no sign of a plan", -1, x.plan());
            DUE.is("13 from its first byte on", 0, x.fault(1));
        }
        CommandLink x = new CommandLink();
        x.feed(0x202020FF, BLANKS, BLANKS, BLANKS, BLANKS);
        x.plan();
        DUE.is("13 a byte of 255 by itself", 3, x.fault(1));
        x.feed(BLANKS | 0x80000000, BLANKS, BLANKS, BLANKS, BLANKS);
        x.plan();
        DUE.is("13 a blank with the highest bit is none", 0, x.fault(1));
    }

    /** "The TAPE has its first n bytes alone: true". */
    private static void endsThatCanBe() {
        for (int n : new int[] {0, 1, 19, 20}) {
            CommandLink x = new CommandLink();
            Ask.feed(x, "on;on;on;on;on;on;!!");
            DUE.is("14 " + n + " of 20", true, x.end(n));
            DUE.is("14 it has " + n, n + 20, feedBlanks(x));
        }
        CommandLink x = new CommandLink();
        Ask.feed(x, "on;on;on;on;on;on;!!");
        x.end(18);
        DUE.is("14 the first alone", 6, x.plan());
        DUE.is("14 0 of none", true, new CommandLink().end(0));
        CommandLink full = withTape(400);
        DUE.is("14 400 of 400", true, full.end(400));
    }

    /** "false, changing nothing, if it has not so many, or n is below 0". */
    private static void endsThatCantBe() {
        for (int n : new int[] {-1, 12, -2, 13, 400, 401, MIN, MAX}) {
            REFUSED.noIn("14 " + n + " of 11", () -> Scenes.in(1), x -> x.end(n));
        }
        for (int n : new int[] {-1, 1, MIN, MAX}) {
            REFUSED.noIn("14 " + n + " of none", CommandLink::new, x -> x.end(n));
        }
        REFUSED.noIn("14 401 of 400", () -> withTape(400), x -> x.end(401));
    }

    private static void endThenFeed() {
        CommandLink x = new CommandLink();
        Ask.feed(x, "take;foo");
        x.end(5);
        DUE.is("14 what was cut off is gone", false, x.end(8));
        x.feed(0x6F6E3B6F, 0x6E3B6F6E, 0x3B6F6E3B, BLANKS, BLANKS);
        DUE.is("14 the next comes behind it: take;on;on;on;on;", 5, x.plan());
    }

    private static void holds(int lines, String text) {
        CommandLink x = new CommandLink();
        DUE.is("15 lines of \"" + text + "\"", lines, Ask.plan(x, text));
        DUE.is("16 no FAULT in \"" + text + "\"", 0, x.fault(0));
        DUE.is("16 no place in \"" + text + "\"", -1, x.fault(1));
        DUE.is("15 the plan is \"" + text + "\"", lines, x.look(18));
    }

    private static void fails(int fault, int place, String text) {
        CommandLink x = new CommandLink();
        DUE.is("15 a FAULT in \"" + text + "\"", -1, Ask.plan(x, text));
        DUE.is("16 which in \"" + text + "\"", fault, x.fault(0));
        DUE.is("16 where in \"" + text + "\"", place, x.fault(1));
        DUE.is("15 no plan by \"" + text + "\"", 0, x.look(18));
    }

    private static void emptyPlans() {
        holds(0, "");
        holds(0, " ");
        holds(0, "\n");
        holds(0, " \n \n ");
        DUE.is("15 400 blanks", 0, withTape(400).plan());
    }

    /** "blanks (32, 10)": each other byte alone can't stand there. */
    private static void eachByteAlone() {
        for (int c = 0; c <= 255; c++) {
            if (c == 32 || c == 10) {
                holds(0, "" + (char) c);
                holds(1, "on" + (char) c + ";");
            } else {
                fails(1, 0, "" + (char) c);
            }
        }
    }

    /** "letters (a .. z, A .. Z) as many as stand together are those words or none". */
    private static void lettersStandTogether() {
        for (char c : new char[] {'a', 'z', 'A', 'Z', 'm', 'M'}) {
            fails(1, 0, "on" + c + ";");
            fails(1, 0, c + "on;");
        }
        for (char c : new char[] {'@', '[', '`', '{', '/', ':', '_', '-', 9, 13, 0, 127, 128, 255, 225, 193}) {
            fails(1, 2, "on" + c + ";");
            fails(1, 0, c + "on;");
        }
        fails(1, 2, "on9;");
        fails(1, 0, "9on;");
        fails(1, 2, "on0on;");
    }

    /** "digits as many as stand together NUMBERS". */
    private static void digitsStandTogether() {
        holds(1, "tick 10;");
        fails(1, 7, "tick 1 0;");
        for (char c : new char[] {'/', ':', '.', ',', '-', '+', 'a', 'Z', 0, 9, 13, 176, 178}) {
            fails(1, 6, "tick 1" + c + ";");
        }
        fails(1, 5, "tick +1;");
        fails(1, 5, "tick -1;");
    }

    private static void blanksBetween() {
        holds(1, "tick1;");
        holds(2, "tick1;on;");
        holds(2, "\n\n tick \n 1 \n ; \n on \n ; \n");
        holds(3, "send0;past9999;on;");
        fails(1, 0, "ti ck 1;");
        fails(1, 5, "on ; ;");
        fails(1, 4, "tick\r1;");
        fails(1, 4, "tick\t1;");
    }

    private static void eachWordByItself() {
        for (String word : BARE) {
            holds(1, word + ";");
            fails(1, word.length(), word);
            fails(1, word.length() + 1, word + " 1;");
        }
        for (String word : WITH_NUMBER) {
            holds(1, word + " 1;");
            fails(1, word.length(), word + ";");
            fails(1, word.length() + 2, word + " 1");
            fails(1, word.length() + 3, word + " 1 1;");
        }
    }

    private static void wordsThatAreNone() {
        for (String word : BARE) {
            isNoWord(word);
        }
        for (String word : WITH_NUMBER) {
            isNoWord(word);
        }
        fails(1, 0, "renum 1;");
        fails(1, 0, "un;");
        fails(1, 0, "o;");
    }

    private static void isNoWord(String word) {
        fails(1, 0, word.substring(1) + " 1;");
        fails(1, 0, word.substring(0, word.length() - 1) + " 1;");
        fails(1, 0, word + word.charAt(word.length() - 1) + " 1;");
        fails(1, 0, word.toUpperCase() + " 1;");
        fails(1, 0, Character.toUpperCase(word.charAt(0)) + word.substring(1) + " 1;");
    }

    /** "NUMBERS of 1 to 4 digits or none". */
    private static void numbersOfOneToFourDigits() {
        holds(1, "send 1;");
        holds(1, "send 01;");
        holds(1, "send 001;");
        holds(1, "send 0001;");
        fails(1, 5, "send 00001;");
        fails(1, 5, "send 10000;");
        fails(1, 5, "tick 00001;");
        fails(1, 5, "tick 00100;");
        fails(1, 4, "set 65536;");
        fails(1, 4, "set 4294967296;");
        fails(1, 5, "tick 99999999999999999999999999999999;");
        holds(1, "tick 0060;");
        fails(2, 5, "tick 0061;");
    }

    /** "V 0 .. 9999, N 0 .. 255, K 1 .. 60". */
    private static void numbersWithinTheirBounds() {
        for (int w = 0; w < WITH_NUMBER.length; w++) {
            for (int n : new int[] {LEAST[w], LEAST[w] + 1, MOST[w] - 1, MOST[w]}) {
                holds(1, WITH_NUMBER[w] + " " + n + ";");
            }
        }
    }

    /** "2 (at the NUMBER) one beyond its bounds". */
    private static void numbersBeyondTheirBounds() {
        fails(2, 4, "set 256;");
        fails(2, 4, "set 9999;");
        fails(2, 9, "renumber 256;");
        fails(2, 9, "renumber 9999;");
        for (String word : new String[] {"tick", "drop"}) {
            fails(2, 5, word + " 0;");
            fails(2, 5, word + " 0000;");
            fails(2, 5, word + " 61;");
            fails(2, 5, word + " 9999;");
            fails(2, 7, word + " \n 61;");
            fails(2, 4, word + "61;");
        }
        fails(2, 5, "tick 61");
        fails(2, 5, "tick 61 61 !");
    }

    /** "1 what can't stand there". */
    private static void whatCantStandThere() {
        fails(1, 0, ";");
        fails(1, 0, "1;");
        fails(1, 0, "foo;");
        fails(1, 1, " ;");
        fails(1, 3, "on;;");
        fails(1, 3, "on on;");
        fails(1, 3, "on 1;");
        fails(1, 5, "send on;");
        fails(1, 5, "send foo;");
        fails(1, 7, "send 5 on;");
        fails(1, 7, "send 5 5;");
        fails(1, 6, "send 5,");
    }

    /** "(the end: the text's length)". */
    private static void theEnd() {
        fails(1, 2, "on");
        fails(1, 3, "on ");
        fails(1, 5, "on \n ");
        fails(1, 4, "send");
        fails(1, 6, "send 5");
        fails(1, 8, "send 5\n\n");
        fails(1, 5, "on;on");
        holds(1, "on; ");
    }

    /** "FAULTS, the first by its place". */
    private static void theFirstByItsPlace() {
        fails(1, 3, "on;foo;tick 61;");
        fails(2, 8, "on;tick 61;foo;");
        fails(2, 5, "tick 0;tick 61;");
        fails(2, 5, "tick 61 foo");
        fails(1, 5, "tick foo 61;");
    }

    private static String on(int lines) {
        return "on;".repeat(lines);
    }

    /** "up to 24 lines". */
    private static void linesOf24() {
        holds(1, on(1));
        holds(23, on(23));
        holds(24, on(24));
        holds(24, on(24) + " \n ");
    }

    /** "3 (at its first token) the 25th line"; "at one place the least". */
    private static void the25thLine() {
        fails(3, 72, on(25));
        fails(3, 74, on(24) + " \non;");
        fails(3, 72, on(24) + "on");
        fails(3, 72, on(24) + "tick 61;");
        fails(3, 72, on(24) + "tick;");
        fails(3, 72, on(26));
        fails(3, 72, on(25) + "foo;");
        fails(1, 72, on(24) + "foo;");
        fails(1, 72, on(24) + ";");
        fails(1, 72, on(24) + "5");
        fails(1, 72, on(24) + "!");
        fails(1, 71, on(23) + "on");
        fails(1, 72, on(23) + "on !;");
        fails(2, 74, on(23) + "tick 61;on;");
        fails(1, 69, on(23) + "foo;on;");
    }

    /** A text as long as the TAPE. */
    private static void planOf400Bytes() {
        String line = "renumber  255   ;";
        String text = line.repeat(23) + "send 1\n;";
        DUE.is("15 the text has 399 bytes", 399, text.length());
        holds(24, text);
        holds(24, text + " ");
        String open = line.repeat(23) + "send 1\n ";
        fails(1, 399, open);
        fails(1, 400, open + " ");
        fails(1, 399, open + "!");
    }

    /** "The TAPE, empty then (with a FAULT too)". */
    private static void faultEmptiesTheTape() {
        for (String text : new String[] {"on;", "foo;", "tick 61;", on(25), ""}) {
            CommandLink x = new CommandLink();
            Ask.plan(x, text);
            DUE.is("15 the TAPE is empty behind \"" + text + "\"", false, x.end(1));
            DUE.is("15 so that twenty come", 20, feedBlanks(x));
        }
    }

    /** "NONE: a FAULT (the plan stays as it was)". */
    private static void faultKeepsThePlan() {
        for (String text : new String[] {"foo;", "stop;stop;tick 61;", on(25), "stop;stop"}) {
            CommandLink x = new CommandLink();
            Ask.plan(x, "start; send 7; stop;");
            x.run(1);
            DUE.is("15 a FAULT", -1, Ask.plan(x, text));
            DUE.is("15 its lines stay", 3, x.look(18));
            DUE.is("15 its place stays", 1, x.look(19));
            DUE.is("15 it goes on", 1, x.run(1));
            DUE.is("15 as it was", 7, x.ledger(0, 0));
        }
    }

    /** "is the plan, at its beginning: how many lines". */
    private static void planAtItsBeginning() {
        CommandLink x = new CommandLink();
        Ask.plan(x, "start; stop; start;");
        x.run(2);
        DUE.is("15 another plan", 2, Ask.plan(x, "start; stop;"));
        DUE.is("15 has two lines", 2, x.look(18));
        DUE.is("15 none of which was run", 0, x.look(19));
        x.run(1);
        DUE.is("15 an empty TAPE is a plan, too", 0, x.plan());
        DUE.is("15 of no lines", 0, x.look(18));
        DUE.is("15 none was run", 0, x.look(19));
        DUE.is("15 there is none to run", 0, x.run(24));
    }

    /** "Of the latest plan() what 0 the FAULT (0 without one), 1 its place (NONE). NONE for another what." */
    private static void whatsOfFault() {
        CommandLink x = new CommandLink();
        Ask.plan(x, "on;tick 61;");
        DUE.is("16 the FAULT", 2, x.fault(0));
        DUE.is("16 its place", 8, x.fault(1));
        for (int what : new int[] {-1, 2, -2, 3, MIN, MAX}) {
            DUE.is("16 what " + what, -1, x.fault(what));
        }
        feedBlanks(x);
        x.run(1);
        x.tick(1);
        x.image(true);
        x.image(false);
        DUE.is("16 of the latest plan() still", 2, x.fault(0));
        x.plan();
        DUE.is("16 none in the latest then", 0, x.fault(0));
        DUE.is("16 no place then", -1, x.fault(1));
        for (int what : new int[] {-1, 2, MIN, MAX}) {
            DUE.is("16 what " + what + " without a FAULT", -1, x.fault(what));
        }
    }

    private static CommandLink of24() {
        CommandLink x = new CommandLink();
        Ask.plan(x, "past 1;tick 1;".repeat(12));
        return x;
    }

    /** "RUN k (1 .. 24): the next k lines". */
    private static void runsThatCanBe() {
        for (int k : new int[] {1, 2, 23, 24}) {
            CommandLink x = of24();
            DUE.is("17 " + k + " of 24", k, x.run(k));
            DUE.is("17 so many were run", k, x.look(19));
            DUE.is("17 so many went", k / 2, x.look(13));
        }
        CommandLink x = of24();
        for (int i = 1; i <= 24; i++) {
            DUE.is("17 one by one", 1, x.run(1));
            DUE.is("17 so many were run", i, x.look(19));
        }
        DUE.is("17 the plan is at its end", 0, x.run(1));
        DUE.is("17 no more were run", 24, x.look(19));
    }

    /** "NONE if k can't be". */
    private static void runsThatCantBe() {
        for (int k : new int[] {0, 25, -1, 26, MIN, MAX}) {
            REFUSED.none("17 " + k + " can't be", x -> x.run(k));
        }
    }

    /** "the plan is at its end: fewer". */
    private static void runToTheEndOfThePlan() {
        CommandLink x = of24();
        x.run(23);
        DUE.is("17 24 of the one that is left", 1, x.run(24));
        DUE.is("17 24 were run", 24, x.look(19));
        DUE.is("17 24 of none", 0, x.run(24));
        CommandLink y = new CommandLink();
        DUE.is("17 24 of three", 3, Ask.run(y, "start; send 1; stop;"));
        DUE.is("17 three were run", 3, y.look(19));
    }

    private static void runOfNoPlan() {
        CommandLink x = new CommandLink();
        for (int k : new int[] {1, 24}) {
            DUE.is("17 " + k + " of no plan", 0, x.run(k));
        }
        DUE.is("17 none was run", 0, x.look(19));
        DUE.is("17 nothing has changed", Ask.everything(new CommandLink()), Ask.everything(x));
    }

    /** "(what is refused is passed over)": how many were not. */
    private static void eachLineRefused() {
        String[] refused = {"send 1;", "stop;", "on;", "take;", "lose;", "drop 1;"};
        for (String line : refused) {
            CommandLink x = new CommandLink();
            DUE.is("17 refused: " + line, 0, Ask.run(x, line));
            DUE.is("17 it was run, too: " + line, 1, x.look(19));
            DUE.is("17 the next is not: " + line, 1, Ask.run(x, line + "past 5;"));
            DUE.is("17 it is done: " + line, 1, x.sender(6));
        }
        for (String line : new String[] {"start;", "check;", "unlock;", "set 5;", "renumber 5;"}) {
            CommandLink x = new CommandLink();
            x.start(0, 0);
            DUE.is("17 refused in MACHINE 1: " + line, 0, Ask.run(x, line));
            DUE.is("17 NUMBER stays: " + line, 0, x.sender(1));
        }
        CommandLink x = new CommandLink();
        DUE.is("17 the fifth past is refused", 4, Ask.run(x, "past 1;".repeat(5)));
        CommandLink y = new CommandLink();
        y.start(0, 0);
        DUE.is("17 the ninth send is refused", 8, Ask.run(y, "send 1;".repeat(9)));
        DUE.is("17 eight in LINE", 8, y.sender(3));
    }

    /** "one by one as if called". */
    private static void linesAsIfCalled() {
        String[] lines = {"start;", "check;", "unlock;", "set 0;", "set 255;", "renumber 0;", "renumber 255;", "past 0;",
            "past 9999;", "tick 1;", "tick 60;"};
        for (int i = 0; i < lines.length; i++) {
            CommandLink called = new CommandLink();
            CommandLink run = new CommandLink();
            call(called, i);
            DUE.is("17 one line: " + lines[i], 1, Ask.run(run, lines[i]));
            Ask.plan(called, "");
            Ask.plan(run, "");
            DUE.is("17 as if called: " + lines[i], Ask.everything(called), Ask.everything(run));
        }
        CommandLink x = new CommandLink();
        Ask.run(x, "start; send 0; send 9999;");
        DUE.is("17 send 0", 0, x.ledger(0, 0));
        DUE.is("17 send 9999", 9999, x.ledger(1, 0));
        DUE.is("17 both in LINE", 2, x.truth(4));
        DUE.is("17 tick and no take: both lie there", 1, Ask.run(x, "tick 60;"));
        DUE.is("17 nothing is TAKEN by a tick", 2, x.receiver(5));
        DUE.is("17 the first is TAKEN", 1, Ask.run(x, "take;"));
        DUE.is("17 9999 is left", 9999, x.take());
    }

    private static void call(CommandLink x, int line) {
        switch (line) {
            case 0: x.start(0, 0); break;
            case 1: x.start(1, 0); break;
            case 2: x.start(2, 0); break;
            case 3: x.start(3, 0); break;
            case 4: x.start(3, 255); break;
            case 5: x.renumber(0); break;
            case 6: x.renumber(255); break;
            case 7: x.past(0); break;
            case 8: x.past(9999); break;
            case 9: x.tick(1); break;
            default: x.tick(60); break;
        }
    }

    /** "drop K: the K-th REPORT on its way, from 1 on". */
    private static void dropCountsFromOne() {
        for (int k = 1; k <= 4; k++) {
            CommandLink x = new CommandLink();
            x.set(7, 40);
            x.set(10, 1);
            x.tick(3);
            DUE.is("17 drop " + k + " of three", k <= 3 ? 1 : 0, Ask.run(x, "drop " + k + ";"));
            DUE.is("17 left behind drop " + k, k <= 3 ? 2 : 3, x.way(false, -1, 0));
            DUE.is("17 the first behind drop " + k, k == 1 ? 42 : 41, x.way(false, 0, -1));
            DUE.is("17 the second behind drop " + k, k <= 2 ? 43 : 42, x.way(false, 1, -1));
        }
        CommandLink x = new CommandLink();
        x.set(7, 40);
        x.set(10, 1);
        x.tick(45);
        DUE.is("17 drop 40 of forty", 1, Ask.run(x, "drop 40;"));
        DUE.is("17 drop 40, 60 of 39", 0, Ask.run(x, "drop 40;drop 60;"));
    }

    /** "lose: the latest FRAME on its way is dropped". */
    private static void loseDropsTheLatest() {
        CommandLink x = new CommandLink();
        x.set(6, 40);
        x.past(1);
        x.past(2);
        x.past(3);
        x.tick(3);
        DUE.is("17 lose, the REPORTS stay", 2, Ask.run(x, "tick 1; lose;"));
        DUE.is("17 two are left", 2, x.way(true, -1, 0));
        DUE.is("17 the second is the latest", 2, x.way(true, 1, 3));
        DUE.is("17 the REPORT stays", 1, x.way(false, -1, 0));
        DUE.is("17 two more, and no third", 2, Ask.run(x, "lose; lose; lose;"));
        DUE.is("17 none is left", 0, x.way(true, -1, 0));
    }

    private static void tickInAPlanAt9999() {
        CommandLink x = new CommandLink();
        for (int i = 0; i < 166; i++) {
            x.tick(60);
        }
        DUE.is("17 9960: tick 40 is refused, tick 39 is not, tick 1 is", 1, Ask.run(x, "tick 40; tick 39; tick 1;"));
        DUE.is("17 TICK", 9999, x.look(0));
        DUE.is("17 all three were run", 3, x.look(19));
    }
}
