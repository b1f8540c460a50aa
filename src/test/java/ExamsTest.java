/** Promises 35 to 39: rules, exams, appeals, counts. */
final class ExamsTest {
    private static final Check check = new Check("ExamsTest");

    public static void main(String[] args) {
        rule();
        faults();
        behindFault();
        marks();
        wrong();
        over();
        overStraight();
        askRefused();
        examTold();
        appeal();
        appealBans();
        count();
        check.end();
    }

    private static void due(String call, long got, long want) {
        check.due(call, got, want);
    }

    private static void rule() {
        check.promise(35, "rule");
        RunSayer x = new RunSayer();
        due("a rule", Cities.rule(x, "take 1"), 0);
        due("the tape is empty", x.count(11), 0);
        due("three tests", Cities.rule(x, "take 0012 if said=1&wrong<9999&over>0"), 1);
        due("the tape is empty", x.count(11), 0);
        due("a fault", Cities.rule(x, "take 1 if said=1&"), -117);
        due("the tape is empty then", x.count(11), 0);
        due("two tests", Cities.rule(x, "take 9999 if turns=1&feet=2"), 2);
        due("one test", Cities.rule(x, "take 0 if day=0"), 3);
        due("a rule", Cities.rule(x, "take 1"), 4);
        due("a rule", Cities.rule(x, "take 1"), 5);
        Cities.feed(x, "nothing");
        due("a seventh, ahead of the fault", x.rule(), RunSayer.FULL);
        due("the tape stays", x.count(11), 7);
        due("count(10)", x.count(10), 6);
    }

    /** A rule that was begun and failed leaves nothing in the next one. */
    private static void behindFault() {
        RunSayer x = examined();
        due("it fails behind two tests", Cities.rule(x, "take 7 if said>1&said>1&x"), -124);
        due("the next one", Cities.rule(x, "take 5"), 0);
        x.ask(0, 0, 1, 6);
        due("it has no tests", x.examTold(0, 5), 95);
        due("it fails behind a test", Cities.rule(x, "take 7 if said>1&x"), -117);
        due("the next one", Cities.rule(x, "take 5 if said=1"), 1);
        x.ask(0, 0, 1, 6);
        due("it has one test", x.examTold(1, 5), 90);
    }

    private static void fault(String text, int place) {
        RunSayer x = new RunSayer();
        due("'" + text + "'", Cities.rule(x, text), place < 0 ? 0 : -100 - place);
        due("'" + text + "': the tape behind it", x.count(11), 0);
        due("'" + text + "': rules", x.count(10), place < 0 ? 1 : 0);
    }

    private static void faults() {
        fault("", 0);
        fault(" take 1", 0);
        fault("Take 1", 0);
        fault("tale 1", 2);
        fault("take", 4);
        fault("take1", 4);
        fault("take ", 5);
        fault("take  1", 5);
        fault("take x", 5);
        fault("take -1", 5);
        fault("take /", 5);
        fault("take :", 5);
        fault("take 1234", -1);
        fault("take 12345", 9);
        fault("take 1x", 6);
        fault("take 1 ", 7);
        fault("take 1  if said=1", 7);
        fault("take 1 i", 8);
        fault("take 1 of", 7);
        fault("take 1 if", 9);
        fault("take 1 if ", 10);
        fault("take 1 ifsaid=1", 9);
        fault("take 1 if  said=1", 10);
        fault("take 1 if x", 10);
        fault("take 1 if sad=1", 12);
        fault("take 1 if wrung=1", 12);
        fault("take 1 if ower=1", 11);
        fault("take 1 if turn=1", 14);
        fault("take 1 if foot=1", 11);
        fault("take 1 if dan=1", 12);
        fault("take 1 if days=1", 13);
        fault("take 1 if said", 14);
        fault("take 1 if said1", 14);
        fault("take 1 if said =1", 14);
        fault("take 1 if said=", 15);
        fault("take 1 if said=x", 15);
        fault("take 1 if said= 1", 15);
        fault("take 1 if said=<1", 15);
        fault("take 1 if said=1", -1);
        fault("take 1 if said=1234", -1);
        fault("take 1 if said=12345", 19);
        fault("take 1 if said=1 ", 16);
        fault("take 1 if said=1x", 16);
        fault("take 1 if said=1&", 17);
        fault("take 1 if said=1&x", 17);
        fault("take 1 if said=1&said=1&day>0", -1);
        fault("take 1 if said=1&said=1&day>0&", 29);
        fault("take 1 if said=1&said=1&day>0 ", 29);
        fault("take 1 if said=1&said=1&day>00000", 32);
        fault("take 1 if said=1 & said=1", 16);
        fault("take 1\0", 6);
        fault("take \u00b11", 5);
    }

    private static RunSayer examined(String... rules) {
        RunSayer x = Cities.ridden();
        for (String rule : rules) {
            check.isTrue(rule, Cities.rule(x, rule) >= 0);
        }
        return x;
    }

    private static void mark(String rule, int said, int nothing) {
        RunSayer x = examined(rule);
        x.ask(0, 0, 1, 6);
        x.ask(1, 0, 1, 6);
        due("'" + rule + "', NEAR was said", x.examTold(0, 5), said);
        due("'" + rule + "', nothing was said", x.examTold(1, 5), nothing);
    }

    private static void marks() {
        check.promise(36, "ask");
        mark("take 0", 100, 100);
        mark("take 7", 93, 93);
        mark("take 100", 0, 0);
        mark("take 101", 0, 0);
        mark("take 9999", 0, 0);
        mark("take 7 if said=1", 93, 100);
        mark("take 7 if said=0", 100, 93);
        mark("take 7 if said<1", 100, 93);
        mark("take 7 if said>0", 93, 100);
        mark("take 7 if wrong=0", 93, 93);
        mark("take 7 if wrong>0", 100, 100);
        // 100 feet are 40 above 60: 66 hundredths, cut
        mark("take 7 if over=66", 93, 100);
        mark("take 7 if over>65", 93, 100);
        mark("take 7 if over>66", 100, 100);
        mark("take 7 if over<67", 93, 93);
        mark("take 7 if over<66", 100, 93);
        mark("take 7 if over=0", 100, 93);
        mark("take 7 if turns=2", 93, 100);
        mark("take 7 if turns=0", 100, 93);
        mark("take 7 if feet=100", 93, 100);
        mark("take 7 if feet=0", 100, 93);
        mark("take 7 if day=3", 93, 93);
        mark("take 7 if day=0003", 93, 93);
        mark("take 7 if day=0", 100, 100);
        mark("take 7 if said=1&turns=2", 93, 100);
        mark("take 7 if said=1&turns=1", 100, 100);
        mark("take 7 if said=0&turns=0", 100, 93);
        mark("take 7 if said=1&turns=2&day=3", 93, 100);
        mark("take 7 if said=1&turns=2&day=4", 100, 100);
        mark("take 7 if said=0&day=3&day>2", 100, 93);
        RunSayer x = examined("take 20 if said=1", "take 5", "take 40 if turns>1&feet>99", "take 30 if said=0");
        x.ask(0, 0, 1, 6);
        x.ask(1, 0, 1, 6);
        due("all rules that hold", x.examTold(0, 5), 35);
        due("all rules that hold", x.examTold(1, 5), 65);
        Cities.rule(x, "take 90");
        due("a rule that came late changes nothing", x.examTold(0, 5), 35);
        x.ask(0, 0, 1, 6);
        due("it counts for the next one, 0 at least", x.examTold(2, 5), 0);
    }

    private static void wrong() {
        String rule = "take 7 if wrong=1";
        RunSayer x = examined(rule);
        x.shut(1, 4, 5);
        x.ask(0, 0, 1, 6);
        due("shut tomorrow", x.examTold(0, 5), 100);
        x.pass(1);
        x.ask(0, 0, 1, 6);
        due("shut today", x.examTold(1, 5), 93);
        x.ask(1, 0, 1, 6);
        due("nothing can't be wrong", x.examTold(2, 5), 100);
        x.pass(1);
        x.ban(2, 4, 607, 127);
        x.ask(0, 0, 1, 6);
        due("a banned turn", x.examTold(3, 5), 93);
        x.ask(0, 0, 1, 7);
        due("not banned in that hour", x.examTold(4, 5), 100);
        RunSayer y = examined(rule);
        y.shut(0, 0, 300);
        y.ask(0, 0, 1, 6);
        due("the first leg is shut", y.examTold(0, 5), 93);
        RunSayer z = examined(rule);
        z.shut(2, 0, 300);
        z.ask(0, 0, 1, 6);
        due("the last leg is shut", z.examTold(0, 5), 93);
        RunSayer w = examined(rule);
        w.ban(0, 2, 24, 127);
        w.ask(0, 0, 1, 6);
        due("the first turn is banned", w.examTold(0, 5), 93);
        w.ban(3, 1, 24, 127);
        w.ask(0, 0, 1, 6);
        due("it is what is known of a run that counts", w.examTold(1, 5), 93);
    }

    private static void over() {
        RunSayer x = examined("take 7 if over>0");
        x.shut(3, 0, 300);
        x.ask(0, 0, 1, 6);
        due("NEAR is the least now", x.examTold(0, 5), 100);
        x.shut(1, 0, 300);
        x.ask(0, 0, 1, 6);
        due("there is no run", x.examTold(1, 5), 100);
        RunSayer y = examined("take 7 if over>0");
        y.way(4, 0, 2, 20, 0);
        y.ban(0, 2, 24, 127);
        y.shut(3, 0, 300);
        y.ask(0, 0, 1, 6);
        due("10 and 22 and 30: 62 feet", y.examTold(0, 5), 93);
        y.ask(0, 0, 1, 7);
        due("10 and 44 and 30: 84 feet, 19 above", y.examTold(1, 5), 93);
        Cities.rule(y, "take 20 if over=19");
        y.ask(0, 0, 1, 7);
        due("the hour counts", y.examTold(2, 5), 73);
        y.shut(0, 0, 300);
        y.ask(0, 0, 1, 7);
        due("from a shut way there is no run", y.examTold(3, 5), 100);
        RunSayer z = Cities.street(10, 10);
        z.way(0, 0, 2, 300, 0);
        z.name(2, Cities.word("b"));
        Cities.say(z, 0, 1, 0, "leave up ahead a set left");
        z.pupil(1);
        z.ride(0, 0);
        z.ban(0, 2, 24, 127);
        Cities.rule(z, "take 7 if over>0");
        Cities.rule(z, "take 1 if wrong=1");
        z.ask(0, 0, 1, 0);
        due("18 feet said, wrong; 302 are the least that can be", z.examTold(0, 5), 99);
    }

    private static void overStraight() {
        RunSayer x = Cities.square();
        x.junction(30, 30, 0);
        x.way(0, 0, 4, 40, 0);
        x.way(0, 4, 2, 40, 0);
        x.name(4, Cities.word("lane"));
        x.name(5, Cities.word("tube"));
        x.pupil(1);
        Cities.rule(x, "take 7 if over>0");
        Cities.rule(x, "take 1 if over=0");
        Cities.say(x, 0, 1, 6, "leave down right lane ahead tube left ash set right");
        x.ride(0, 0);
        x.ask(0, 0, 1, 6);
        due("120 feet said are the straightest, 60 the least", x.examTold(0, 5), 93);
        x.shut(1, 0, 300);
        x.shut(3, 0, 300);
        x.ask(0, 0, 1, 6);
        due("and now the least", x.examTold(1, 5), 99);
        x.shut(0, 0, 300);
        x.ask(0, 0, 1, 6);
        due("no run", x.examTold(2, 5), 99);
        x.door(0, 30, 0);
        x.ask(0, 0, 2, 6);
        due("one leg was said, there is no run", x.examTold(3, 5), 99);
        oneLegOver();
    }

    private static void oneLegOver() {
        RunSayer x = Cities.street(100);
        x.way(0, 1, 0, 5, 0);
        x.name(1, Cities.word("b"));
        x.pupil(1);
        Cities.rule(x, "take 7 if over>0");
        Cities.rule(x, "take 1 if over=0");
        x.ask(0, 0, 1, 6);
        due("98 feet on one leg; 1 and 5 and 1 are the least", x.examTold(0, 5), 93);
        x.ban(1, 3, 24, 127);
        x.ask(0, 0, 1, 6);
        due("and now one leg is the least", x.examTold(1, 5), 99);
        x.door(0, 50, 0);
        Cities.say(x, 2, 1, 6, "leave down left b left a set right");
        x.ban(0, 2, 24, 127);
        due("round, and it is banned", Cities.say(x, 1, 2, 6, "leave up left b left a set left"), -1015);
        RunSayer y = Cities.street(40, 10);
        y.way(0, 1, 0, 30, 1);
        y.door(0, 30, 0);
        y.pupil(1);
        Cities.rule(y, "take 7 if over=91");
        // back from 30 to 1: 29 feet down in one leg
        y.ask(0, 2, 0, 6);
        due("one leg is straight", y.examTold(0, 5), 100);
    }

    private static void askRefused() {
        check.promise(36, "ask");
        RunSayer x = examined();
        due("no pupil", x.ask(2, 0, 1, 6), RunSayer.NONE);
        due("no pupil", x.ask(-1, 0, 0, 6), RunSayer.NONE);
        due("no door", x.ask(0, 2, 1, 6), RunSayer.NONE);
        due("no door", x.ask(0, 0, -1, 24), RunSayer.NONE);
        due("the same door", x.ask(0, 1, 1, 6), RunSayer.BAD);
        due("hour 24", x.ask(0, 0, 1, 24), RunSayer.BAD);
        due("hour -1", x.ask(0, 0, 1, -1), RunSayer.BAD);
        x.best(1, 0, 6, 0);
        for (int k = 0; k < 24; k++) {
            due("exam " + k, x.ask(k % 2, 0, 1, 6), k);
        }
        due("a 25th", x.ask(0, 0, 1, 6), RunSayer.FULL);
        due("a 25th that is bad", x.ask(0, 0, 0, 6), RunSayer.BAD);
        due("count(9)", x.count(9), 24);
        due("what was found last stays", x.leg(0), 4);
    }

    private static void examTold() {
        check.promise(37, "examTold");
        RunSayer x = examined("take 11 if said=1", "take 22");
        due("no exam", x.examTold(0, 0), RunSayer.NONE);
        due("no exam, what is bad", x.examTold(-1, 8), RunSayer.NONE);
        x.ask(0, 0, 1, 6);
        x.pass(1);
        x.ask(1, 1, 0, 23);
        int[][] told = {{0, 0, 1, 3, 6, 67, 3, 3}, {1, 1, 0, 4, 23, 78, 0, 4}};
        for (int k = 0; k < 2; k++) {
            for (int what = 0; what < 8; what++) {
                due("exam " + k + ", what " + what, x.examTold(k, what), told[k][what]);
            }
            due("what 8", x.examTold(k, 8), RunSayer.BAD);
            due("what -1", x.examTold(k, -1), RunSayer.BAD);
        }
        due("exam 2", x.examTold(2, 0), RunSayer.NONE);
    }

    private static void appeal() {
        check.promise(38, "appeal");
        RunSayer x = examined("take 10 if wrong=1", "take 20 if over>0", "take 3 if day=3");
        due("no exam", x.appeal(0), RunSayer.NONE);
        due("no exam", x.appeal(-1), RunSayer.NONE);
        x.ask(0, 0, 1, 6);
        due("over", x.examTold(0, 5), 77);
        due("nothing came", x.appeal(0), 0);
        x.pass(2);
        x.shut(3, 0, 4);
        due("fir was shut then: 20 more", x.appeal(0), 20);
        due("the mark", x.examTold(0, 5), 97);
        due("the day by which it was marked", x.examTold(0, 7), 5);
        due("the day of it", x.examTold(0, 3), 3);
        due("once more", x.appeal(0), 0);
        x.shut(2, 4, 300);
        due("ash is shut since, not then", x.appeal(0), 0);
        x.shut(2, 3, 4);
        x.pass(1);
        due("ash was shut then", x.appeal(0), -10);
        Cities.rule(x, "take 50 if feet=100&turns=2");
        due("by all rules that there are", x.appeal(0), -50);
        Cities.rule(x, "take 50");
        due("0 at least", x.appeal(0), -37);
        due("the mark", x.examTold(0, 5), 0);
        due("the day by which it was marked", x.examTold(0, 7), 6);
        due("what was said stays", x.examTold(0, 6), 3);
        x.pass(50);
        due("what he holds now is not asked", x.wouldSay(0, 0, 1, 6) + x.appeal(0), 0);
        due("no exam 1", x.appeal(1), RunSayer.NONE);
    }

    /** A ban holds from the day on on which it was told, whatever is known. */
    private static void appealBans() {
        RunSayer x = examined("take 10 if wrong=1");
        x.ask(0, 0, 1, 6);
        x.ban(0, 2, 24, 127);
        due("told on the same day", x.appeal(0), -10);
        RunSayer y = examined("take 10 if wrong=1");
        y.ask(0, 0, 1, 6);
        y.pass(1);
        y.ban(0, 2, 24, 127);
        due("told on the day behind it", y.appeal(0), 0);
        y.ask(0, 0, 1, 6);
        due("from now on it is wrong", y.examTold(1, 5), 90);
        y.best(1, 0, 6, 0);
        y.appeal(0);
        due("what was found last stays", y.leg(0), 4);
    }

    private static void count() {
        check.promise(39, "count");
        RunSayer x = examined("take 1", "take 2", "take 3");
        x.door(1, 5, 0);
        x.junction(90, 90, 0);
        x.junction(91, 91, 0);
        for (int i = 0; i < 5; i++) {
            x.name(0, Cities.word("a"));
            x.shut(0, 0, 1);
            x.ban(0, 2, 24, 127);
            x.ask(i % 2, 0, 1, 6);
        }
        x.shut(0, 0, 1);
        x.feed(0, 7);
        x.taken(0, 8);
        x.taken(99, 0);
        x.taken(0, 9);
        x.taken(0, 0);
        x.pupil(1);
        int[] counts = {6, 4, 3, 3, 9, 6, 5, 1, 3, 5, 3, 7, 3, 13};
        for (int what = 0; what < 14; what++) {
            due("count(" + what + ")", x.count(what), counts[what]);
        }
        due("count(14)", x.count(14), RunSayer.BAD);
        due("count(-1)", x.count(-1), RunSayer.BAD);
    }
}
