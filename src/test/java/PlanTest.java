/** Promises 13 (feed), 14 (end), 15 (plan), 16 (fault), 17 (run). */
public final class PlanTest {
    private static final Due DUE = new Due("PlanTest");

    public static void main(String[] args) {
        feed();
        end();
        plan();
        faults();
        faultOfAManyLines();
        faultKeepsThePlan();
        runBounds();
        runEachWord();
        runPassesOverTheRefused();
        DUE.end();
    }

    private static void feed() {
        CommandLink x = new CommandLink();
        for (int i = 1; i <= 20; i++) {
            DUE.is("13 twenty more", 20 * i, x.feed(538976288, 538976288, 538976288, 538976288, 538976288));
        }
        DUE.is("13 no more than 400", -1, x.feed(0, 0, 0, 0, 0));
        x.end(381);
        DUE.is("13 it would be 401", -1, x.feed(0, 0, 0, 0, 0));
        x.end(380);
        DUE.is("13 400", 400, x.feed(538976288, 538976288, 538976288, 538976288, 538976288));
        DUE.is("15 blanks alone", 0, x.plan());
        DUE.is("13 empty then", 20, x.feed(-1, 0, 0, 0, 0));
        DUE.is("15 a byte of 255", -1, x.plan());
        DUE.is("16 its place", 0, x.fault(1));
        x.feed(0x74616B65, 0x3B202020, 0x20202020, 0x20202020, 0x20202074);
        DUE.is("13 the highest first", -1, x.plan());
        DUE.is("16 the last byte is the last", 19, x.fault(1));
    }

    private static void end() {
        CommandLink x = new CommandLink();
        DUE.is("14 none of none", true, x.end(0));
        DUE.is("14 below", false, x.end(-1));
        x.feed(0x6F6E3B78, 0, 0, 0, 0);
        DUE.is("14 more than it has", false, x.end(21));
        DUE.is("14 all", true, x.end(20));
        DUE.is("14 three", true, x.end(3));
        DUE.is("14 no way back", false, x.end(4));
        DUE.is("14 the first three", 1, x.plan());
    }

    private static void plan() {
        CommandLink x = new CommandLink();
        String all = "send 0;past 9999;start;check;unlock;set 255;stop;on;renumber 0;take;tick 60;lose;drop 1;";
        DUE.is("15 every word", 13, Ask.plan(x, all));
        DUE.is("16 no fault", 0, x.fault(0));
        DUE.is("16 no place", -1, x.fault(1));
        DUE.is("15 blanks anywhere", 2, Ask.plan(x, " \n send\n7 ; take\n\n ;  "));
        DUE.is("15 no blank is needed", 2, Ask.plan(x, "send0007;take;"));
        DUE.is("15 an empty TAPE", 0, x.plan());
        DUE.is("15 no lines", 0, x.look(18));
        DUE.is("16 another what", -1, x.fault(2));
        DUE.is("16 what below", -1, x.fault(-1));
        StringBuilder many = new StringBuilder();
        for (int i = 0; i < 24; i++) {
            many.append("on;");
        }
        DUE.is("15 24 lines", 24, Ask.plan(x, many.toString()));
    }

    private static void faults() {
        fault("send 5", 1, 6);
        fault("send 5  ", 1, 8);
        fault("send", 1, 4);
        fault("send;", 1, 4);
        fault("send x;", 1, 5);
        fault("send 12345;", 1, 5);
        fault("send 10000000000000;", 1, 5);
        fault("take 5;", 1, 5);
        fault("take take;", 1, 5);
        fault("5;", 1, 0);
        fault(";", 1, 0);
        fault("take;;", 1, 5);
        fault("taken;", 1, 0);
        fault("tak;", 1, 0);
        fault("Take;", 1, 0);
        fault("take;\ttake;", 1, 5);
        fault("take, take;", 1, 4);
        fault("send -5;", 1, 5);
        fault("sends 5;", 1, 0);
        fault("set 256;", 2, 4);
        fault("set  9999 x", 2, 5);
        fault("renumber 256;", 2, 9);
        fault("tick 0;", 2, 5);
        fault("tick 61;", 2, 5);
        fault("drop 0000;", 2, 5);
        fault("drop 61;", 2, 5);
        fault("take; set 300; foo;", 2, 10);
        fault("take; foo; set 300;", 1, 6);
        fault("take" + (char) 233 + ";", 1, 4);
        fault("send 5" + (char) 0 + ";", 1, 6);
    }

    private static void fault(String text, int what, int place) {
        CommandLink x = new CommandLink();
        DUE.is("15 " + text, -1, Ask.plan(x, text));
        DUE.is("16 " + text, what, x.fault(0));
        DUE.is("16 place in " + text, place, x.fault(1));
        DUE.is("15 the TAPE is empty then " + text, false, x.end(1));
        DUE.is("15 plan() anew " + text, 0, x.plan());
        DUE.is("16 no fault then " + text, 0, x.fault(0));
        DUE.is("16 no place then " + text, -1, x.fault(1));
    }

    private static void faultOfAManyLines() {
        StringBuilder many = new StringBuilder();
        for (int i = 0; i < 24; i++) {
            many.append("on;");
        }
        fault(many + " on;", 3, 73);
        fault(many + "on", 3, 72);
        fault(many + "set 999;", 3, 72);
        fault(many + "no;", 1, 72);
        fault(many + ";", 1, 72);
        fault(many + "7", 1, 72);
    }

    private static void faultKeepsThePlan() {
        CommandLink x = new CommandLink();
        Ask.plan(x, "start; stop; start;");
        x.run(1);
        DUE.is("15 a fault", -1, Ask.plan(x, "take; take"));
        DUE.is("15 the plan stays", 3, x.look(18));
        DUE.is("15 at its place", 1, x.look(19));
        DUE.is("17 and goes on", 2, x.run(2));
        DUE.is("17 to its end", 1, x.sender(0));
        Ask.plan(x, "take;");
        DUE.is("15 a new plan is at its beginning", 0, x.look(19));
    }

    private static void runBounds() {
        CommandLink x = new CommandLink();
        DUE.is("17 none", -1, x.run(0));
        DUE.is("17 below", -1, x.run(-1));
        DUE.is("17 above", -1, x.run(25));
        DUE.is("17 without a plan", 0, x.run(24));
        Ask.plan(x, "start; send 1; send 2; stop;");
        DUE.is("17 two lines", 2, x.run(2));
        DUE.is("17 as if called", 1, x.sender(3));
        DUE.is("17 what is left", 2, x.run(24));
        DUE.is("17 nothing left", 0, x.run(1));
        DUE.is("34 four were run", 4, x.look(19));
    }

    private static void runEachWord() {
        CommandLink x = new CommandLink();
        DUE.is("17 renumber, start", 2, Ask.run(x, "renumber 9; start;"));
        DUE.is("17 MACHINE 1", "ACTIVE 0/3 #9", Ask.text(x, 1));
        DUE.is("17 stop, check", 2, Ask.run(x, "stop; check;"));
        DUE.is("17 MACHINE 4", 4, x.sender(0));
        DUE.is("17 stop, unlock", 2, Ask.run(x, "stop; unlock;"));
        DUE.is("17 an unlock", 0, x.sender(10));
        DUE.is("17 stop, set, tick", 3, Ask.run(x, "stop; set 200; tick 7;"));
        DUE.is("17 set", 200, x.receiver(0));
        DUE.is("17 send, past, tick", 4, Ask.run(x, "send 11; send 12; past 13; tick 3;"));
        DUE.is("17 three on their way", 3, x.way(true, -1, 0));
        DUE.is("17 lose", 1, Ask.run(x, "lose;"));
        DUE.is("17 the latest is dropped", 2, x.way(true, -1, 0));
        DUE.is("17 the one past the order is first", 1, x.way(true, 0, 0));
        DUE.is("17 tick, take", 2, Ask.run(x, "tick 2; take;"));
        DUE.is("17 taken", 0, x.receiver(5));
        x.set(7, 20);
        DUE.is("17 drop 2", 2, Ask.run(x, "tick 8; drop 2;"));
        DUE.is("17 of the REPORTS", 1, x.way(false, -1, 0));
        DUE.is("17 the first stays", 36, x.way(false, 0, -1));
        x.direct(0);
        x.set(5, 1);
        x.set(4, 1);
        DUE.is("17 on", 3, Ask.run(x, "check; tick 1; on;"));
        DUE.is("17 MACHINE 4 once more", 4, x.sender(0));
    }

    private static void runPassesOverTheRefused() {
        CommandLink x = new CommandLink();
        DUE.is("17 none of these can be", 0, Ask.run(x, "send 1; stop; on; take; lose; drop 1;"));
        DUE.is("34 all were run", 6, x.look(19));
        DUE.is("17 two of four", 2, Ask.run(x, "start; start; renumber 5; stop;"));
        DUE.is("17 the fifth past", 4, Ask.run(x, "past 1;past 1;past 1;past 1;past 1;"));
        DUE.is("17 a tick beyond what can be", -1, Ask.run(x, "tick 61;"));
    }
}
