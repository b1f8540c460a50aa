/** Promises 22 to 26: the tape, and runs that are said. */
final class SpeechTest {
    private static final Check check = new Check("SpeechTest");

    public static void main(String[] args) {
        feed();
        wipe();
        refused();
        faults();
        twentyTurns();
        driven();
        whyNot();
        today();
        inRing();
        run();
        runTold();
        check.end();
    }

    private static void due(String call, long got, long want) {
        check.due(call, got, want);
    }

    private static void feed() {
        check.promise(22, "feed");
        RunSayer x = Cities.street(10, 10);
        due("n 0", x.feed(1, 0), RunSayer.BAD);
        due("n 9", x.feed(1, 9), RunSayer.BAD);
        due("n -1", x.feed(1, -1), RunSayer.BAD);
        due("one byte", x.feed(-1, 1), 1);
        due("eight bytes", x.feed(-1, 8), 9);
        due("count(11)", x.count(11), 9);
        for (int i = 0; i < 18; i++) {
            due("eight more", x.feed(0, 8), 17 + 8 * i);
        }
        due("153 and 8", x.feed(0, 8), RunSayer.FULL);
        due("153 and 9", x.feed(0, 9), RunSayer.BAD);
        due("it changed nothing", x.count(11), 153);
        due("153 and 7", x.feed(0, 7), 160);
        due("160 and 1", x.feed(0, 1), RunSayer.FULL);
        x.wipe();
        // the highest byte first, of the n lowest ones
        x.feed(Cities.word("xleave u"), 7);
        x.feed(Cities.word("zzzpsetl") , 1);
        x.feed(Cities.word("p set le"), 8);
        x.feed(Cities.word("ft"), 2);
        due("leave ulp set left", x.say(0, 1, 0), -106);
        x.feed(Cities.word("xleave u"), 7);
        x.feed(Cities.word("p ahead "), 8);
        x.feed(Cities.word("a set le"), 8);
        x.feed(Cities.word("??????ft"), 2);
        due("leave up ahead a set left", x.say(0, 1, 0), 0);
    }

    private static void wipe() {
        check.promise(23, "wipe");
        RunSayer x = Cities.square();
        due("an empty tape", x.wipe(), 0);
        x.feed(0, 8);
        x.feed(0, 3);
        due("eleven bytes", x.wipe(), 11);
        due("it is empty then", x.wipe(), 0);
        due("count(11)", x.count(11), 0);
        due("the next bytes come first", x.feed(0, 2), 2);
    }

    private static void refused() {
        check.promise(24, "say");
        RunSayer x = Cities.street(10, 10);
        Cities.feed(x, "leave up ahead a set left");
        due("no door", x.say(2, 1, 0), RunSayer.NONE);
        due("no door", x.say(0, -1, 24), RunSayer.NONE);
        due("the same door", x.say(1, 1, 0), RunSayer.BAD);
        due("hour 24", x.say(0, 1, 24), RunSayer.BAD);
        due("hour -1", x.say(0, 1, -1), RunSayer.BAD);
        due("the tape stays", x.count(11), 25);
        due("said", x.say(0, 1, 0), 0);
        due("the tape is empty", x.count(11), 0);
        for (int r = 1; r < 10; r++) {
            due("run " + r, Cities.say(x, 0, 1, 0, "leave up ahead a set left"), r);
        }
        Cities.feed(x, "leave it");
        due("an eleventh", x.say(0, 1, 0), RunSayer.FULL);
        due("the tape stays", x.count(11), 8);
        due("an eleventh in hour 24", x.say(0, 1, 24), RunSayer.BAD);
        due("count(7)", x.count(7), 10);
    }

    private static void fault(String text, int place) {
        RunSayer x = Cities.street(10, 10);
        due("'" + text + "'", Cities.say(x, 0, 1, 0, text), place < 0 ? 0 : -100 - place);
        due("'" + text + "': the tape behind it", x.count(11), 0);
        due("'" + text + "': runs", x.count(7), place < 0 ? 1 : 0);
    }

    private static void faults() {
        check.promise(24, "say");
        fault("leave up ahead a set left", -1);
        fault("  leave   up  ahead  a  set   left", -1);
        fault("leave up ahead a set left   ", -1);
        fault("", 0);
        fault("   ", 3);
        fault(" up", 1);
        fault("Leave up", 0);
        fault("leav", 0);
        fault("leaves up", 0);
        fault("leaveup ahead a set left", 0);
        fault("leave", 5);
        fault("leave ", 6);
        fault("leave  left", 7);
        fault("leave uplift", 6);
        fault("leave u", 6);
        fault("leave 1", 6);
        fault("leave up", 8);
        fault("leave up  ", 10);
        fault("leave up a", 9);
        fault("leave up leave", 9);
        fault("leave up 1", 9);
        fault("leave up\tset left", 8);
        fault("leave up aheads a set left", 9);
        fault("leave up ahead", 14);
        fault("leave up ahead  ", 16);
        fault("leave up ahead 1 set left", 15);
        fault("leave up ahead A set left", 15);
        fault("leave up ahead aaaaaaaaa set left", 15);
        fault("leave up ahead a\u00e9 set left", 16);
        fault("leave up ahead a`et left", 16);
        fault("leave up ahead a{et left", 16);
        fault("leave up ahead a", 16);
        fault("leave up ahead a up", 17);
        fault("leave up ahead a set", 20);
        fault("leave up ahead a set ", 21);
        fault("leave up ahead a set ahead", 21);
        fault("leave up ahead a set lef", 21);
        fault("leave up ahead a setleft", 17);
        fault("leave up ahead a set left.", 25);
        fault("leave up ahead a set left  set", 27);
        fault("leave up ahead a set left\0", 25);
        fault("leave up comply a", 16);
        fault("leave up comply", 15);
        fault("leave up comply ", 16);
        fault("leave up comply 0a", 16);
        fault("leave up comply 10 a", 16);
        fault("leave up comply 11 a", 16);
        fault("leave up comply 1", 17);
        fault("leave up comply 1 2 a", 18);
        fault("leave up comply / a", 16);
        fault("leave up comply : a", 16);
        fault("leave up comply 3 set", 21);
        fault("leave up complyed 3 a", 9);
        parsed("leave up comply3a set left", 0, -1013);
        parsed("leave up comply  9  a  set left", 0, -1013);
        parsed("leave up comply 1a set left", 0, -1013);
        parsed("leave up ahead set set left", 0, -1012);
        parsed("leave up ahead leave set left", 0, -1012);
        parsed("leave up ahead aaaaaaaa set left", 0, -1012);
        parsed("leave up ahead a ahead a set left", 0, -1022);
        parsed("leave down set right", 0, -1006);
    }

    /** It has no fault, but it can't be driven. */
    private static void parsed(String text, int hour, int want) {
        RunSayer x = Cities.street(10, 10);
        due("'" + text + "'", Cities.say(x, 0, 1, hour, text), want);
        due("'" + text + "': the tape behind it", x.count(11), 0);
        due("'" + text + "': runs", x.count(7), 0);
    }

    private static void twentyTurns() {
        RunSayer x = new RunSayer();
        for (int j = 0; j < 22; j++) {
            x.junction(4 * j, 0, 0);
        }
        for (int w = 0; w < 21; w++) {
            x.way(0, w, w + 1, 5, 0);
            x.name(w, Cities.word("a"));
        }
        x.door(0, 1, 0);
        x.door(20, 1, 0);
        x.door(19, 1, 0);
        String turn = "ahead a ";
        // 160 bytes do not hold twenty turns ahead and all the rest, so the street turns left: it does not,
        // but a fault comes ahead of why not
        String twenty = "leave up" + " left a".repeat(20);
        due("20 turns", Cities.say(x, 0, 1, 0, twenty + " set left"), -1013);
        due("21 turns", Cities.say(x, 0, 1, 0, twenty + " left"), -100 - 149);
        due("21 turns, the last one spelled wrong", Cities.say(x, 0, 1, 0, twenty + " lift"), -100 - 149);
        due("20 turns, no end", Cities.say(x, 0, 1, 0, twenty), -100 - 148);
        due("20 turns, and more behind the end", Cities.say(x, 0, 1, 0, twenty + " set left a"), -100 - 158);
        due("as long as the tape", Cities.say(x, 0, 1, 0, twenty + " set     lef"), -100 - 157);
        due("18 turns ahead", Cities.say(x, 0, 1, 0, "leave up " + turn.repeat(17) + "set left"), -1000 - 170 - 6);
        longestSaid();
        twentyLinks();
    }

    /** To and fro between two junctions: to look back is to turn left. */
    private static void twentyLinks() {
        RunSayer x = new RunSayer();
        x.junction(0, 0, 0);
        x.junction(9, 0, 0);
        StringBuilder text = new StringBuilder("leave up");
        for (int w = 0; w < 21; w++) {
            x.way(0, 0, 1, 10, 0);
            x.name(w, 'a' + w);
            text.append(w == 0 ? "" : " left " + (char) ('a' + w));
        }
        x.door(0, 3, 0);
        x.door(20, 3, 0);
        due("twenty turns", Cities.say(x, 0, 1, 0, text + " set left"), 0);
        due("leg 1", x.run(0, 1), 3);
        due("leg 20", x.run(0, 20), 40);
        x.pupil(1);
        due("twenty links", x.ride(0, 0), 20);
        due("the first one", x.holds(0, 0, 3, 0), 1);
        due("the last one", x.holds(0, 39, 40, 0), 1);
        due("he would say it", x.wouldSay(0, 0, 1, 0), 21);
    }

    /** Around a square twenty turns left, each with the same name. */
    private static void longestSaid() {
        RunSayer x = Cities.around();
        due("five times around", Cities.say(x, 0, 1, 0, "leave up" + " left a".repeat(20) + " set left"), 0);
        due("its legs", x.run(0, -1), 21);
        due("leg 19", x.run(0, 19), 6);
        due("leg 20", x.run(0, 20), 0);
        due("its feet", x.runTold(0, 4), 7 + 19 * 10 + 5);
        due("its twists: both doors are on one way", x.runTold(0, 5), 0);
        x.pupil(1);
        due("its links, each once", x.ride(0, 0), 4);
        due("they were ridden once", x.knows(0, 1), 4);
        due("they were ridden once", x.knows(0, 2), 0);
    }

    private static void driven() {
        check.promise(24, "say");
        RunSayer x = Cities.square();
        due("left, left, set right", Cities.say(x, 0, 1, 0, "leave up left oak left ash set right"), 0);
        due("right, right, set left", Cities.say(x, 0, 1, 0, "leave down right fir right ash set left"), 1);
        due("the wrong side", Cities.say(x, 0, 1, 0, "leave up left oak left ash set left"), -1027);
        due("the wrong side", Cities.say(x, 0, 1, 0, "leave down right fir right ash set right"), -1027);
        due("back, to side 0, down", Cities.say(x, 1, 0, 0, "leave down right oak right elm set right"), 2);
        due("back, to side 0, up", Cities.say(x, 1, 0, 0, "leave up left fir left elm set left"), 3);
        due("back, to side 0, up", Cities.say(x, 1, 0, 0, "leave up left fir left elm set right"), -1027);
        due("once around and more", Cities.say(x, 0, 1, 0,
                "leave up left oak left ash left fir left elm left oak left ash set right"), 4);
        x.door(0, 20, 0);
        x.door(0, 10, 1);
        x.door(0, 11, 0);
        due("one foot ahead", Cities.say(x, 0, 4, 0, "leave up set right"), -1007);
        due("one foot behind", Cities.say(x, 4, 0, 0, "leave up set right"), -1006);
        due("one leg, up", Cities.say(x, 0, 2, 0, "leave up set left"), 5);
        due("one leg, down, behind", Cities.say(x, 0, 2, 0, "leave down set right"), -1006);
        due("one leg, down", Cities.say(x, 2, 0, 0, "leave down set right"), 6);
        due("one leg, down, the wrong side", Cities.say(x, 2, 0, 0, "leave down set left"), -1007);
        due("one leg, up, side 1", Cities.say(x, 0, 3, 0, "leave up set right"), -1006);
        due("side by side, down", Cities.say(x, 0, 3, 0, "leave down set left"), -1006);
        due("around to the same place", Cities.say(x, 0, 3, 0,
                "leave up left oak left ash left fir left elm set right"), 7);
        due("its feet", x.runTold(7, 4), 30 + 120 + 10);
    }

    private static void whyNot() {
        RunSayer x = new RunSayer();
        x.junction(50, 50, 0);
        x.junction(10, 50, 0);
        x.junction(90, 50, 0);
        x.junction(50, 90, 0);
        x.way(3, 1, 0, 9, 1);
        x.way(0, 0, 2, 9, 0);
        x.way(5, 0, 2, 9, 0);
        x.way(0, 0, 3, 9, 0);
        x.name(0, Cities.word("in"));
        x.name(1, Cities.word("on"));
        x.name(2, Cities.word("on"));
        x.name(2, Cities.word("toll"));
        x.name(3, Cities.word("up"));
        x.name(3, Cities.word("both"));
        x.name(2, Cities.word("both"));
        x.door(0, 5, 0);
        x.door(2, 5, 0);
        x.door(1, 5, 0);
        due("1: not open", Cities.say(x, 0, 1, 4, "leave up ahead x set left"), -1001);
        due("1: against one", Cities.say(x, 0, 1, 5, "leave down ahead x set left"), -1001);
        due("2: none is called so", Cities.say(x, 0, 1, 5, "leave up ahead x set left"), -1012);
        due("2: its own way does not follow", Cities.say(x, 0, 1, 5, "leave up ahead in set left"), -1012);
        due("3: it lies ahead", Cities.say(x, 0, 1, 5, "leave up left toll set left"), -1013);
        due("3: it lies ahead", Cities.say(x, 0, 1, 5, "leave up comply 1 toll set left"), -1013);
        due("of two that are called so, the one that lies so", Cities.say(x, 0, 1, 5, "leave up ahead both set left"), 0);
        due("of two that lie so, the least", Cities.say(x, 0, 2, 5, "leave up ahead on set left"), 1);
        due("6: not the goal's way", Cities.say(x, 0, 1, 5, "leave up ahead on set left"), -1016);
        due("6 comes ahead of 7", Cities.say(x, 0, 1, 5, "leave up ahead on set right"), -1016);
        due("7", Cities.say(x, 0, 1, 5, "leave up ahead toll set right"), -1017);
        x.ban(0, 2, 24, 127);
        x.ban(0, 4, 518, 127);
        due("5: the least is banned, the other one does not help", Cities.say(x, 0, 1, 18, "leave up ahead on set left"), -1015);
        due("5: banned in hour 17", Cities.say(x, 0, 1, 17, "leave up ahead toll set left"), -1015);
        due("not in hour 18", Cities.say(x, 0, 1, 18, "leave up ahead toll set left"), 2);
        x.shut(1, 0, 9);
        due("4 comes ahead of 5", Cities.say(x, 0, 1, 18, "leave up ahead on set left"), -1014);
        due("the second step", Cities.say(x, 0, 1, 18, "leave up left up left toll set left"), -1022);
        due("step 1 comes ahead of step 2", Cities.say(x, 0, 1, 18, "leave up ahead up left x set left"), -1013);
        intoLegNought();
        x.shut(0, 0, 1);
        due("1: shut", Cities.say(x, 0, 1, 18, "leave up ahead x set left"), -1001);
    }

    /** Leg 0 is a leg like all others. */
    private static void intoLegNought() {
        RunSayer x = Cities.square();
        String text = "leave down right oak right elm set right";
        x.ban(3, 1, 608, 127);
        due("into leg 1, banned", Cities.say(x, 1, 0, 6, text), -1025);
        text = "leave up left fir left elm set left";
        due("into leg 0", Cities.say(x, 1, 0, 6, text), 0);
        x.ban(6, 0, 608, 127);
        due("into leg 0, banned", Cities.say(x, 1, 0, 6, text), -1025);
        x.shut(0, 0, 300);
        due("into leg 0, shut", Cities.say(x, 1, 0, 6, text), -1024);
    }

    private static void today() {
        RunSayer x = Cities.street(10, 10);
        x.pass(2);
        x.name(1, Cities.word("new"));
        x.shut(1, 3, 4);
        x.ban(0, 2, 24, 32);
        due("the old name", Cities.say(x, 0, 1, 0, "leave up ahead a set left"), 0);
        due("the new name", Cities.say(x, 0, 1, 0, "leave up ahead new set left"), 1);
        x.pass(1);
        due("shut today", Cities.say(x, 0, 1, 0, "leave up ahead a set left"), -1014);
        x.pass(1);
        due("open again", Cities.say(x, 0, 1, 0, "leave up ahead a set left"), 2);
        x.pass(1);
        due("day 5 is banned", Cities.say(x, 0, 1, 0, "leave up ahead a set left"), -1015);
    }

    private static void inRing() {
        RunSayer x = new RunSayer();
        x.junction(50, 50, 1);
        for (int i = 0; i < 11; i++) {
            x.junction(40 + i, 60, 0);
            x.way(0, i + 1, 0, 9, 0);
            x.name(i, Cities.word("a"));
        }
        x.door(0, 1, 0);
        x.door(9, 1, 1);
        x.door(10, 1, 1);
        // from above, clockwise behind the first way: the ways as they stand, from the left to the right
        due("the ninth exit", Cities.say(x, 0, 1, 0, "leave up comply 9 a set left"), 0);
        due("leg 19", x.run(0, 1), 19);
        due("no left in a ring", Cities.say(x, 0, 2, 0, "leave up left a set left"), -1013);
        due("comply 1 is the first exit", Cities.say(x, 0, 2, 0, "leave up comply 1 a set left"), -1016);
        x.ring(0, 0);
        due("a ring no more", Cities.say(x, 0, 1, 0, "leave up comply 9 a set left"), -1013);
        due("the least leg to the left", Cities.say(x, 0, 1, 0, "leave up left a set left"), -1016);
    }

    private static void run() {
        check.promise(25, "run");
        RunSayer x = Cities.square();
        due("no run", x.run(0, 0), RunSayer.NONE);
        due("no run, a bad leg", x.run(0, -2), RunSayer.NONE);
        Cities.say(x, 0, 1, 0, "leave down right fir right ash set left");
        due("how many", x.run(0, -1), 3);
        due("leg 0", x.run(0, 0), 1);
        due("leg 1", x.run(0, 1), 7);
        due("leg 2", x.run(0, 2), 5);
        due("leg 3", x.run(0, 3), RunSayer.BAD);
        due("leg -2", x.run(0, -2), RunSayer.BAD);
        due("run 1", x.run(1, 0), RunSayer.NONE);
        due("run -1", x.run(-1, 0), RunSayer.NONE);
        Cities.say(x, 0, 1, 0, "leave down right oak");
        Cities.say(x, 0, 1, 0, "leave up left oak left ash set left");
        due("what can't be driven is not kept", x.run(1, 0), RunSayer.NONE);
    }

    private static void runTold() {
        check.promise(26, "runTold");
        RunSayer x = Cities.square();
        due("no run", x.runTold(0, 0), RunSayer.NONE);
        due("no run, what is bad", x.runTold(-1, 9), RunSayer.NONE);
        x.junction(30, 30, 0);
        x.way(4, 0, 4, 30, 0);
        x.way(1, 4, 2, 30, 0);
        x.name(4, Cities.word("tube"));
        x.name(5, Cities.word("lane"));
        x.pass(4);
        Cities.say(x, 0, 1, 7, "leave up left oak left ash set right");
        Cities.say(x, 1, 0, 8, "leave down right lane ahead tube left elm set left");
        int[][] told = {{0, 1, 4, 7, 30 + 40 + 30, 1600}, {1, 0, 4, 8, 30 + 50 + 66 + 10, 0}};
        x.pass(1);
        for (int r = 0; r < 2; r++) {
            for (int what = 0; what < 6; what++) {
                due("run " + r + ", what " + what, x.runTold(r, what), told[r][what]);
            }
            due("what 6", x.runTold(r, 6), RunSayer.BAD);
            due("what -1", x.runTold(r, -1), RunSayer.BAD);
        }
    }
}
