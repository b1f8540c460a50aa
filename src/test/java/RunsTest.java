/** Promises 16 to 21: best runs, and the proofs of the least feet. */
final class RunsTest {
    private static final Check check = new Check("RunsTest");

    public static void main(String[] args) {
        best();
        oneLeg();
        likeRuns();
        longest();
        otherStrings();
        reachedAgain();
        bestOn();
        legAndCost();
        prove();
        bound();
        boundRefused();
        check.end();
    }

    private static void due(String call, long got, long want) {
        check.due(call, got, want);
    }

    private static void best() {
        check.promise(16, "best");
        RunSayer x = Cities.square();
        due("no door", x.best(2, 1, 0, 0), RunSayer.NONE);
        due("no door", x.best(0, 2, 0, 0), RunSayer.NONE);
        due("door -1", x.best(-1, 0, 0, 0), RunSayer.NONE);
        due("twice the same door that there is not", x.best(2, 2, 24, 2), RunSayer.NONE);
        due("the same door", x.best(1, 1, 0, 0), RunSayer.BAD);
        due("hour 24", x.best(0, 1, 24, 0), RunSayer.BAD);
        due("hour -1", x.best(0, 1, -1, 0), RunSayer.BAD);
        due("by 2", x.best(0, 1, 0, 2), RunSayer.BAD);
        due("by -1", x.best(0, 1, 0, -1), RunSayer.BAD);
        check.found(x, "nothing was found yet", 0, 0);
        // off the string from 10, 10 to 50, 50 by 1600 each: the ends of elm and of fir
        due("straightest: up elm, oak, ash, or down elm, fir, ash", x.best(0, 1, 0, 0), 3);
        check.found(x, "down: its first end is on the string", 1600, 60, 1, 7, 5);
        due("shortest", x.best(0, 1, 0, 1), 3);
        check.found(x, "shortest", 1600, 60, 1, 7, 5);
        due("back", x.best(1, 0, 23, 0), 3);
        check.found(x, "back", 1600, 60, 4, 6, 0);
        x.junction(30, 30, 0);
        x.way(1, 0, 4, 40, 0);
        x.way(4, 4, 2, 40, 0);
        due("along the string", x.best(0, 1, 6, 0), 4);
        check.found(x, "along the string", 0, 10 + 60 + 44 + 30, 1, 8, 10, 4);
        due("along the string in hour 7", x.best(0, 1, 7, 0), 4);
        check.found(x, "along the string in hour 7", 0, 10 + 60 + 88 + 30, 1, 8, 10, 4);
        due("by feet it is not the best", x.best(0, 1, 7, 1), 3);
        check.found(x, "by feet", 1600, 60, 1, 7, 5);
        x.shut(3, 0, 5);
        due("fir is shut", x.best(0, 1, 7, 1), 3);
        check.found(x, "fir is shut", 1600, 30 + 40 + 30, 0, 2, 4);
        x.ban(0, 2, 24, 127);
        due("elm to oak is banned", x.best(0, 1, 7, 1), 4);
        check.found(x, "elm to oak is banned", 0, 188, 1, 8, 10, 4);
        x.ban(1, 8, 24, 127);
        due("nothing is left", x.best(0, 1, 7, 1), 0);
        check.found(x, "nothing is left", -1, -1);
        due("back there is a run", x.best(1, 0, 7, 1), 3);
        x.ban(5, 3, 24, 127);
        x.ban(5, 11, 24, 127);
        due("the turns out of ash up", x.best(1, 0, 7, 1), 0);
        firstLegs();
    }

    private static void firstLegs() {
        RunSayer x = Cities.street(10, 10);
        x.way(0, 2, 0, 5, 1);
        due("up", x.best(0, 1, 0, 1), 2);
        check.found(x, "up", 0, 9 + 9, 0, 2);
        x.shut(0, 0, 1);
        due("the first way is shut", x.best(0, 1, 0, 1), 0);
        x.pass(1);
        x.shut(1, 0, 300);
        due("the last way is shut", x.best(0, 1, 0, 1), 0);
        due("nor back", x.best(1, 0, 0, 1), 0);
        RunSayer y = new RunSayer();
        y.junction(0, 0, 0);
        y.junction(1, 0, 0);
        y.junction(2, 0, 0);
        y.way(0, 1, 0, 10, 1);
        y.way(0, 1, 2, 10, 0);
        y.door(0, 5, 0);
        y.door(1, 5, 0);
        due("the first leg is against one", y.best(0, 1, 0, 0), 0);
        due("back it is not", y.best(1, 0, 0, 0), 2);
        y.way(3, 0, 1, 10, 0);
        due("round by the alley in hour 5", y.best(0, 1, 5, 0), 3);
        check.found(y, "round by the alley", 0, 5 + 30 + 5, 0, 4, 2);
        due("the alley is not open in hour 22", y.best(0, 1, 22, 0), 0);
        due("the alley costs more in hour 8", y.best(0, 1, 8, 0), 3);
        check.found(y, "the alley in hour 8", 0, 5 + 40 + 5, 0, 4, 2);
    }

    private static void oneLeg() {
        RunSayer x = Cities.street(10);
        x.door(0, 9, 1);
        due("ahead", x.best(0, 1, 0, 0), 1);
        check.found(x, "ahead", 0, 8, 0);
        due("back", x.best(1, 0, 0, 1), 1);
        check.found(x, "back", 0, 8, 1);
        due("side by side: neither lies ahead", x.best(1, 2, 0, 0), 0);
        x.way(0, 1, 0, 3, 0);
        due("side by side: once round", x.best(1, 2, 0, 0), 3);
        check.found(x, "once round: the leg comes again", 0, 1 + 3 + 9, 0, 2, 0);
        due("round is shorter than back, but twists are alike", x.best(1, 0, 0, 0), 3);
        check.found(x, "round", 0, 1 + 3 + 1, 0, 2, 0);
        x.shut(0, 0, 300);
        due("shut", x.best(0, 1, 0, 0), 0);
        RunSayer z = Cities.street(9);
        z.door(0, 2, 0);
        due("one foot", z.best(0, 2, 0, 0), 1);
        check.found(z, "one foot", 0, 1, 0);
        RunSayer y = Cities.street(10);
        y.way(0, 1, 0, 2, 1);
        y.ban(0, 2, 24, 127);
        due("one leg has no turn", y.best(0, 1, 0, 0), 1);
        due("down the leg, not round", y.best(1, 0, 0, 0), 1);
        check.found(y, "down the leg", 0, 8, 1);
    }

    /** Of like ones: the least first leg, then one leg, then the least next one, then the end. */
    private static void likeRuns() {
        RunSayer x = new RunSayer();
        x.junction(0, 0, 0);
        x.junction(1, 0, 0);
        x.junction(2, 0, 0);
        x.way(0, 0, 1, 10, 0);
        x.way(0, 1, 0, 10, 0);
        x.door(0, 5, 0);
        x.door(1, 5, 0);
        due("up or down", x.best(0, 1, 0, 0), 2);
        check.found(x, "up, then up", 0, 10, 0, 2);
        x.ban(0, 2, 24, 127);
        due("down is left", x.best(0, 1, 0, 0), 2);
        check.found(x, "down, then down", 0, 10, 1, 3);
        RunSayer y = new RunSayer();
        y.junction(0, 0, 0);
        y.junction(1, 0, 0);
        y.junction(2, 0, 0);
        y.way(0, 1, 0, 4, 0);
        y.way(0, 1, 0, 6, 0);
        y.way(0, 1, 0, 4, 0);
        y.way(0, 0, 2, 4, 0);
        y.way(0, 1, 2, 9, 1);
        y.door(4, 3, 0);
        y.door(0, 3, 0);
        y.door(2, 1, 0);
        due("from the door to the other one", y.best(0, 1, 0, 0), 3);
        due("two ways back alike in twists: the shorter one", y.cost(1), 6 + 4 + 1);
        due("by leg 7", y.leg(1), 7);
        due("round: first leg 0 or 1", y.best(1, 2, 0, 1), 2);
        check.found(y, "leg 0 up, leg 5 down", 0, 1 + 3, 0, 5);
        RunSayer z = new RunSayer();
        z.junction(0, 0, 0);
        z.junction(1, 0, 0);
        z.way(0, 0, 1, 20, 0);
        z.way(0, 0, 1, 2, 0);
        z.door(0, 12, 0);
        z.door(0, 1, 0);
        due("up and round is as good as down", z.best(0, 1, 0, 1), 3);
        check.found(z, "the least first leg", 0, 11, 0, 3, 0);
        due("back: up is one leg", z.best(1, 0, 0, 1), 1);
        check.found(z, "one leg of like ones", 0, 11, 0);
        RunSayer w = new RunSayer();
        w.junction(0, 0, 0);
        w.junction(1, 0, 0);
        w.junction(2, 0, 0);
        w.way(0, 0, 1, 10, 0);
        w.way(0, 1, 2, 7, 0);
        w.way(0, 1, 2, 7, 0);
        w.way(0, 2, 0, 10, 0);
        w.door(0, 5, 0);
        w.door(3, 5, 0);
        w.ban(1, 7, 24, 127);
        due("two ways on alike", w.best(0, 1, 0, 0), 3);
        check.found(w, "the least next leg", 0, 5 + 7 + 5, 0, 2, 6);
    }

    /** Twists are off the string of the doors that are asked for now; of like feet the least twists count. */
    private static void otherStrings() {
        RunSayer x = new RunSayer();
        int[][] places = {{0, 0}, {20, 0}, {20, 20}, {0, 20}, {10, 1}};
        for (int[] p : places) {
            x.junction(p[0], p[1], 0);
        }
        x.way(0, 0, 1, 10, 0);
        x.way(0, 1, 2, 10, 0);
        x.way(0, 3, 2, 10, 0);
        x.way(0, 0, 3, 10, 0);
        x.way(0, 0, 4, 2, 0);
        x.way(0, 4, 1, 2, 0);
        x.door(4, 1, 0);
        x.door(1, 5, 0);
        x.door(3, 5, 0);
        x.door(2, 5, 0);
        // from 0, 0 to 20, 0: junction 4 is 20 off, all others of row 0 none
        due("from 0 to 1, straightest", x.best(0, 1, 0, 0), 3);
        check.found(x, "from 0 to 1, straightest", 0, 1 + 10 + 5, 9, 0, 2);
        due("from 0 to 1, shortest", x.best(0, 1, 0, 1), 3);
        check.found(x, "from 0 to 1, shortest", 20, 1 + 2 + 5, 8, 10, 2);
        // from 0, 0 to 0, 20: junction 1 and 2 are 400 off, junction 4 is 200 off
        due("from 2 to 3", x.best(2, 3, 0, 0), 2);
        check.found(x, "from 2 to 3", 0, 5 + 5, 6, 4);
        due("from 1 to 2, straightest", x.best(1, 2, 0, 0), 3);
        // from 20, 0 to 0, 0: junction 2 is 400 off, junction 3, too, junction 1 and 0 none
        check.found(x, "from 1 to 2, straightest", 0, 5 + 10 + 5, 3, 1, 6);
        due("from 2 to 1, straightest", x.best(2, 1, 0, 0), 3);
        check.found(x, "from 2 to 1, straightest", 0, 5 + 10 + 5, 7, 0, 2);
        RunSayer y = new RunSayer();
        for (int[] p : places) {
            y.junction(p[0], p[1], 0);
        }
        y.way(0, 0, 3, 10, 0);
        y.way(0, 3, 2, 10, 0);
        y.way(0, 0, 1, 10, 0);
        y.way(0, 1, 2, 10, 0);
        y.way(0, 2, 4, 5, 0);
        y.junction(0, 1, 0);
        y.way(0, 0, 5, 9, 0);
        y.door(5, 4, 0);
        y.door(4, 1, 0);
        // s is 0, 0 and g is 20, 20: both ways round are 400 off; with g at 10, 1 they are not alike
        due("two ways round, alike", y.best(0, 1, 0, 1), 4);
        check.found(y, "two ways round, alike", 400, 4 + 20 + 1, 11, 0, 2, 8);
        y.way(0, 4, 2, 5, 0);
        y.door(6, 4, 0);
        due("two ways round, alike in feet", y.best(0, 2, 0, 1), 4);
        // the cross of 10, 1 with 0, 20 is 200, with 20, 0 it is 20, with 20, 20 it is 180
        check.found(y, "the one with less twists", 20 + 180, 4 + 20 + 1, 11, 4, 6, 13);
    }

    /** All ways stand in one row, to and fro, dear and long: the most twists and feet. */
    private static void longest() {
        RunSayer x = new RunSayer();
        for (int j = 0; j < 24; j++) {
            x.junction(j % 2 == 0 ? 0 : 99, j, 0);
        }
        for (int w = 0; w < 23; w++) {
            x.way(5, w, w + 1, 999, 0);
        }
        x.door(0, 1, 0);
        x.door(22, 998, 0);
        // a of the first way is 0, 0 and a of the last one 0, 22: an end at 99 is 99 times 22 off
        due("all 23 ways", x.best(0, 1, 8, 0), 23);
        due("twists", x.cost(0), 11 * 99 * 22);
        due("feet", x.cost(1), 998 + 21 * 2296 + 998);
        due("the last leg", x.leg(22), 44);
        due("closed in hour 3", x.best(0, 1, 3, 0), 0);
    }

    /** A leg that is reached early, but dear, is reached again for less. */
    private static void reachedAgain() {
        RunSayer x = new RunSayer();
        for (int j = 0; j < 6; j++) {
            x.junction(10 * j, 0, 0);
        }
        x.way(0, 0, 1, 10, 0);
        x.way(0, 1, 2, 100, 0);
        x.way(0, 1, 3, 10, 0);
        x.way(0, 3, 2, 50, 0);
        x.way(0, 3, 4, 10, 0);
        x.way(0, 4, 2, 10, 0);
        x.way(0, 2, 5, 10, 0);
        x.door(0, 5, 0);
        x.door(6, 5, 0);
        due("three by three", x.best(0, 1, 0, 1), 5);
        check.found(x, "three by three", 0, 5 + 30 + 5, 0, 4, 8, 10, 12);
        due("and back", x.best(1, 0, 0, 1), 5);
        check.found(x, "and back", 0, 5 + 30 + 5, 13, 11, 9, 5, 1);
        x.ban(8, 10, 24, 127);
        due("one is banned", x.best(0, 1, 0, 1), 4);
        check.found(x, "one is banned", 0, 5 + 60 + 5, 0, 4, 6, 12);
        x.shut(3, 0, 300);
        due("one is shut", x.best(0, 1, 0, 1), 3);
        check.found(x, "one is shut", 0, 5 + 100 + 5, 0, 2, 12);
    }

    private static void bestOn() {
        check.promise(17, "bestOn");
        RunSayer x = Cities.street(10, 10);
        x.pass(3);
        x.shut(0, 2, 5);
        x.pass(1);
        due("no door", x.bestOn(2, 1, 0, 0, 0), RunSayer.NONE);
        due("no door", x.bestOn(0, -1, -1, 0, 0), RunSayer.NONE);
        due("the same door", x.bestOn(0, 0, 0, 0, 0), RunSayer.BAD);
        due("hour 24", x.bestOn(0, 1, 0, 24, 0), RunSayer.BAD);
        due("by 2", x.bestOn(0, 1, 0, 0, 2), RunSayer.BAD);
        int[] bad = {-1, -1000, 5, 4005, 300000, 300004, 999, Integer.MIN_VALUE, Integer.MAX_VALUE};
        for (int days : bad) {
            due("days " + days, x.bestOn(0, 1, days, 0, 0), RunSayer.BAD);
        }
        due("day 0", x.bestOn(0, 1, 0, 0, 0), 2);
        due("day 1", x.bestOn(0, 1, 1004, 0, 0), 2);
        due("day 2", x.bestOn(0, 1, 2004, 0, 0), 0);
        check.found(x, "day 2", -1, -1);
        due("day 4", x.bestOn(0, 1, 4003, 0, 1), 0);
        due("day 4 as was known on day 2", x.bestOn(0, 1, 4002, 0, 1), 2);
        check.found(x, "day 4 as was known on day 2", 0, 18, 0, 2);
        due("day 5", x.bestOn(0, 1, 5004, 0, 1), 2);
        due("day 299", x.bestOn(0, 1, 299004, 0, 0), 2);
        due("today", x.best(0, 1, 0, 0), 0);
        RunSayer y = Cities.street(10, 10);
        y.junction(5, 5, 0);
        y.way(0, 0, 3, 2, 0);
        y.way(0, 3, 1, 2, 0);
        y.door(0, 5, 0);
        due("by twists", y.bestOn(2, 1, 0, 0, 0), 2);
        check.found(y, "by twists", 0, 5 + 9, 0, 2);
        RunSayer z = Cities.square();
        z.junction(30, 30, 0);
        z.way(1, 0, 4, 40, 0);
        z.way(4, 4, 2, 40, 0);
        due("by twists in hour 6", z.bestOn(0, 1, 0, 6, 0), 4);
        check.found(z, "by twists in hour 6", 0, 10 + 60 + 44 + 30, 1, 8, 10, 4);
        due("by feet in hour 7", z.bestOn(0, 1, 0, 7, 1), 3);
        check.found(z, "by feet in hour 7", 1600, 60, 1, 7, 5);
    }

    private static void legAndCost() {
        check.promise(18, "leg");
        RunSayer x = Cities.street(10, 10, 10);
        due("leg(0) at first", x.leg(0), RunSayer.NONE);
        x.best(0, 1, 0, 0);
        due("leg(0)", x.leg(0), 0);
        due("leg(2)", x.leg(2), 4);
        due("leg(3)", x.leg(3), RunSayer.NONE);
        due("leg(-1)", x.leg(-1), RunSayer.NONE);
        due("leg(MIN)", x.leg(Integer.MIN_VALUE), RunSayer.NONE);
        due("a refusal finds nothing", x.best(0, 0, 0, 0), RunSayer.BAD);
        x.bestOn(0, 1, 5, 0, 0);
        x.prove(1, 0, 0);
        x.parting(1, 0);
        due("what was found last stays", x.leg(2), 4);
        check.promise(19, "cost");
        due("cost(0)", x.cost(0), 0);
        due("cost(1)", x.cost(1), 9 + 10 + 9);
        due("cost(2)", x.cost(2), RunSayer.NO);
        due("cost(-1)", x.cost(-1), RunSayer.NO);
        x.shut(1, 0, 9);
        x.best(0, 1, 0, 0);
        due("none: cost(0)", x.cost(0), -1);
        due("none: cost(1)", x.cost(1), -1);
        due("none: leg(0)", x.leg(0), RunSayer.NONE);
        RunSayer y = new RunSayer();
        due("at first cost(0)", y.cost(0), 0);
        due("at first cost(1)", y.cost(1), 0);
        due("at first cost(2)", y.cost(2), RunSayer.NO);
    }

    private static void prove() {
        check.promise(20, "prove");
        RunSayer x = Cities.street(10, 20, 30);
        due("no door", x.prove(2, 0, 0), RunSayer.NONE);
        due("no door", x.prove(0, -1, 24), RunSayer.NONE);
        due("the same door", x.prove(0, 0, 0), RunSayer.BAD);
        due("hour 24", x.prove(0, 1, 24), RunSayer.BAD);
        due("hour -1", x.prove(0, 1, -1), RunSayer.BAD);
        due("nothing stands yet", x.cell(0, 0, 1), -11);
        x.sheet(0, 0, 99);
        due("prove(0, 1, 0)", x.prove(0, 1, 0), 6);
        proof(x, 20 + 29, -1, 29, -1, -1, -1);
        due("its size", x.cell(0, 6, 1), -12);
        due("it is of ints", x.cell(0, 5, 70000), 1);
        due("it is of ints", x.read(0, 5), 70000);
        due("prove(1, 0, 0)", x.prove(1, 0, 0), 6);
        proof(x, -1, -1, -1, 9, -1, 20 + 9);
        x.way(1, 3, 1, 5, 1);
        due("prove(0, 1, 8) with a lane round", x.prove(0, 1, 8), 8);
        // against the lane nothing may be driven, but from its end (as leg 7) the goal follows
        proof(x, 49, -1, 29, -1, 25 + 49, -1, 49, 1);
        x.ban(0, 2, 24, 127);
        due("a ban", x.prove(0, 1, 0), 8);
        proof(x, -1, -1, 29, -1, 25 + 49, -1, 49, 1);
        x.pass(1);
        x.shut(1, 1, 2);
        due("a way is shut today", x.prove(0, 1, 0), 8);
        proof(x, -1, -1, 29, -1, -1, -1, -1, 1);
        RunSayer y = Cities.street(10, 10);
        y.junction(0, 5, 0);
        y.way(3, 0, 3, 10, 1);
        due("an alley", y.prove(1, 0, 8), 6);
        proof(y, -1, -1, -1, 9, -1, 1);
    }

    private static void proof(RunSayer x, int... numbers) {
        for (int e = 0; e < numbers.length; e++) {
            due("number of leg " + e, x.read(0, e), numbers[e]);
        }
    }

    private static void write(RunSayer x, int s, int... numbers) {
        x.sheet(s, 2, numbers.length);
        for (int i = 0; i < numbers.length; i++) {
            x.cell(s, i, numbers[i]);
        }
    }

    private static void bound() {
        check.promise(21, "bound");
        RunSayer x = Cities.street(10, 20, 30);
        x.prove(0, 1, 0);
        due("of a proof: the least feet", x.bound(0, 1, 0, 0), 9 + 49);
        write(x, 1, 49, -1, 29, -1, -1, -1);
        due("in another sheet", x.bound(0, 1, 0, 1), 58);
        write(x, 1, 48, -1, 29, -1, -1, -1);
        due("a lesser number", x.bound(0, 1, 0, 1), 57);
        write(x, 1, 0, 0, 0, 0, 0, 0);
        due("all 0", x.bound(0, 1, 0, 1), 1);
        write(x, 1, 50, -1, 29, -1, -1, -1);
        due("one above, with leg 0", x.bound(0, 1, 0, 1), -100);
        write(x, 1, 49, -1, 30, -1, -1, -1);
        due("one above the goal, with leg 2", x.bound(0, 1, 0, 1), -102);
        write(x, 1, 49, -1, -1, -1, -1, -1);
        due("-1 though the goal follows", x.bound(0, 1, 0, 1), -100 - 0 - 2);
        write(x, 1, -1, -1, 29, -1, -1, -1);
        due("-1 though a number follows", x.bound(0, 1, 0, 1), -100);
        write(x, 1, 49, -1, 29, -1, -1, -2);
        due("a number below -1", x.bound(0, 1, 0, 1), -105);
        write(x, 1, 49, 7, 29, 7, 9, 27);
        due("numbers that nothing limits", x.bound(0, 1, 0, 1), 8);
        write(x, 1, 49, 7, 29, 18, 9, 28);
        due("one above, with leg 3: leg 1 costs 10", x.bound(0, 1, 0, 1), -103);
        write(x, 1, 49, 2147483647, 29, 2147483647, 9, 2147483647);
        due("the greatest numbers; leg 3 is limited by nothing less", x.bound(0, 1, 0, 1), 58);
        x.shut(1, 0, 1);
        write(x, 1, 2147483647, 2147483647, 29, 5, -1, -1);
        due("above the greatest", x.bound(0, 1, 0, 1), 2147483647);
        write(x, 1, 2147483647, -1, 29, -1, -1, -1);
        due("9 above the greatest", x.bound(0, 1, 0, 1), 2147483647);
        write(x, 1, 2147483638, -1, 29, -1, -1, -1);
        due("just the greatest", x.bound(0, 1, 0, 1), 2147483647);
        write(x, 1, 2147483637, -1, 29, -1, -1, -1);
        due("one less", x.bound(0, 1, 0, 1), 2147483646);
        write(x, 1, -1, -1, 29, -1, -1, -1);
        due("nothing bounds it", x.bound(0, 1, 0, 1), RunSayer.NONE);
        boundOnOneWay();
    }

    private static void boundOnOneWay() {
        RunSayer x = Cities.street(10, 10);
        x.door(0, 4, 0);
        write(x, 3, -1, -1, -1, 9);
        due("above the 6 from its end, with leg 3", x.bound(0, 2, 0, 3), -103);
        write(x, 3, -1, -1, -1, 6);
        due("ahead on the way itself", x.bound(0, 2, 0, 3), 3);
        due("back on the way itself, 9 from its end", x.bound(2, 0, 0, 3), 3);
        write(x, 3, -1, -1, -1, 10);
        due("one above the 9 from its end", x.bound(2, 0, 0, 3), -103);
        write(x, 3, -1, -1, -1, 1);
        due("back on the way itself", x.bound(2, 0, 0, 3), 3);
        write(x, 3, 0, 0, -1, 1);
        due("a number bounds it lower", x.bound(2, 0, 0, 3), 3);
        write(x, 3, 0, 0, 5, 1);
        due("up 6 and 0, down 4 and 0, between 3", x.bound(2, 0, 0, 3), 3);
        x.door(0, 9, 0);
        write(x, 3, 0, 0, 5, 1);
        due("up 1 and 0", x.bound(3, 0, 0, 3), 1);
        x.shut(0, 0, 1);
        due("neither leg is drivable", x.bound(3, 0, 0, 3), RunSayer.NONE);
        boundOnLaterWay();
        RunSayer y = Cities.street(10, 10);
        y.way(0, 1, 0, 5, 0);
        y.ban(0, 2, 24, 127);
        write(y, 3, 999, 0, -1, 0, 0, 0);
        due("leg 0 leads but into leg 4, of price 5 and 0", y.bound(0, 1, 0, 3), -100);
        write(y, 3, 5, 0, -1, 0, 0, 0);
        due("a banned turn limits nothing", y.bound(0, 1, 0, 3), 1);
    }

    private static void boundOnLaterWay() {
        RunSayer x = Cities.street(10, 10, 10);
        x.door(1, 6, 0);
        x.door(1, 7, 0);
        x.door(1, 7, 1);
        write(x, 2, -1, -1, -1, -1, -1, -1);
        due("one foot ahead", x.bound(2, 3, 0, 2), -100);
        write(x, 2, 7, -1, 40, 50, -1, 3);
        due("one foot ahead", x.bound(2, 3, 0, 2), 1);
        due("one foot back", x.bound(3, 2, 0, 2), -100);
        write(x, 2, 6, -1, 40, 50, -1, 3);
        due("one foot back", x.bound(3, 2, 0, 2), 1);
        due("side by side: nothing between them", x.bound(3, 4, 0, 2), 3 + 40);
        write(x, 2, 6, -1, -1, -1, -1, 3);
        due("side by side: nothing between them", x.bound(3, 4, 0, 2), RunSayer.NONE);
        write(x, 2, 6, -1, 0, -1, -1, 3);
        due("up 3 and 0", x.bound(3, 4, 0, 2), 3);
        write(x, 2, 6, -1, -1, 0, -1, 3);
        due("down 7 and 0", x.bound(3, 4, 0, 2), 7);
    }

    private static void boundRefused() {
        RunSayer x = Cities.street(10, 10);
        due("no door", x.bound(2, 0, 0, 0), RunSayer.NONE);
        due("no door, hour 24", x.bound(0, -1, 24, 9), RunSayer.NONE);
        due("the same door", x.bound(1, 1, 0, 0), RunSayer.BAD);
        due("hour 24", x.bound(0, 1, 24, 0), RunSayer.BAD);
        due("hour -1", x.bound(0, 1, -1, 0), RunSayer.BAD);
        due("sheet 4", x.bound(0, 1, 0, 4), RunSayer.BAD);
        due("sheet -1", x.bound(0, 1, 0, -1), RunSayer.BAD);
        due("missing", x.bound(0, 1, 0, 0), -11);
        x.sheet(0, 0, 4);
        due("bytes", x.bound(0, 1, 0, 0), -13);
        x.sheet(0, 1, 9);
        due("shorts of another size", x.bound(0, 1, 0, 0), -13);
        x.sheet(0, 2, 3);
        due("one too few", x.bound(0, 1, 0, 0), -12);
        x.sheet(0, 2, 5);
        due("one too many", x.bound(0, 1, 0, 0), -12);
        x.sheet(0, 2, 4);
        due("all 0", x.bound(0, 1, 0, 0), 1);
        x.sheet(0, -1, 0);
        due("missing again", x.bound(0, 1, 0, 0), -11);
    }
}
