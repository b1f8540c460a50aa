/** Each sentence of the document's terms 2, A RUN, and 3, A SAID run, that names a boundary: both sides of it. */
final class TermsRunsTest {
    private static final Check check = new Check("TermsRunsTest");
    private static final int NONE = -1, BAD = -2, FULL = -4;

    public static void main(String[] args) {
        firstAndLast();
        oneLeg();
        feet();
        twists();
        lessTwists();
        lessFeet();
        leastLeg();
        endsOrGoesOn();
        comesAgain();
        dearOnes();
        rightProof();
        rightProofOfGoal();
        mayBeTurned();
        proofOfAllWays();
        bound();
        boundBetween();
        tape();
        blanks();
        leave();
        turns();
        digit();
        tokens();
        theEnd();
        steps();
        setDown();
        saidRuns();
        check.end();
    }

    private static void due(String call, long got, long want) {
        check.due(call, got, want);
    }

    private static void places(RunSayer x, int... xys) {
        for (int i = 0; i + 1 < xys.length; i += 2) {
            x.junction(xys[i], xys[i + 1], 0);
        }
    }

    // ---- 2 A RUN

    private static void firstAndLast() {
        check.sentence("the first is of the WAY of the one DOOR, the last of the other one's; all are DRIVABLE, no turn of it is BANNED then");
        for (int shut = 0; shut < 4; shut++) {
            RunSayer x = Cities.street(10, 10, 10, 10);
            due("all four", x.best(0, 1, 0, 0), 4);
            x.shut(shut, 0, 1);
            due("way " + shut + " is shut", x.best(0, 1, 0, 0), 0);
            due("way " + shut + " is open tomorrow", x.bestOn(0, 1, 1000, 0, 0), 4);
        }
        for (int turn = 0; turn < 3; turn++) {
            RunSayer x = Cities.street(10, 10, 10, 10);
            x.ban(2 * turn, 2 * turn + 2, 102, 1);
            due("turn " + turn + " in hour 0", x.best(0, 1, 0, 1), 4);
            due("turn " + turn + " in hour 1", x.best(0, 1, 1, 1), 0);
            due("turn " + turn + " in hour 2", x.best(0, 1, 2, 1), 4);
        }
    }

    private static void oneLeg() {
        check.sentence("With one leg the other DOOR lies ahead on it");
        RunSayer x = Cities.street(10);
        int[] feet = {4, 5, 6, 5};
        for (int f : feet) {
            x.door(0, f, 0);
        }
        // doors 2 to 5 stand 4, 5, 6 and 5 from its a; the street has no way round
        due("one foot ahead, up", x.best(3, 4, 0, 0), 1);
        check.found(x, "one foot ahead, up", 0, 1, 0);
        due("one foot ahead, down", x.best(3, 2, 0, 0), 1);
        check.found(x, "one foot ahead, down", 0, 1, 1);
        due("side by side", x.best(3, 5, 0, 0), 0);
        check.found(x, "side by side", -1, -1);
        x.pupil(1);
        due("he would say one leg", x.wouldSay(0, 3, 4, 0), 1);
        due("he would say nothing", x.wouldSay(0, 3, 5, 0), 0);
    }

    private static void feet() {
        check.sentence("Its FEET: with one leg those between the DOORS; else from the DOOR to the end of the first leg, PRICES of those between, and ...");
        RunSayer x = new RunSayer();
        places(x, 0, 0, 10, 0, 20, 0, 30, 0, 40, 0);
        for (int w = 0; w < 4; w++) {
            x.way(3, w, w + 1, 50, 0);
        }
        x.door(0, 1, 0);
        x.door(0, 49, 0);
        x.door(1, 1, 0);
        x.door(2, 49, 0);
        x.door(3, 49, 0);
        int[] hours = {7, 8}, price = {70, 80};
        for (int h = 0; h < 2; h++) {
            x.best(0, 1, hours[h], 0);
            check.found(x, "one leg has no price", 0, 48, 0);
            x.best(1, 0, hours[h], 0);
            check.found(x, "one leg down", 0, 48, 1);
            x.best(0, 2, hours[h], 0);
            check.found(x, "of two legs none is between", 0, 49 + 1, 0, 2);
            x.best(2, 1, hours[h], 0);
            check.found(x, "two legs down", 0, 1 + 1, 3, 1);
            x.best(0, 3, hours[h], 0);
            check.found(x, "one between", 0, 49 + price[h] + 49, 0, 2, 4);
            x.best(4, 1, hours[h], 0);
            check.found(x, "two between, down", 0, 49 + 2 * price[h] + 1, 7, 5, 3, 1);
        }
    }

    private static void twists() {
        check.sentence("Its TWISTS: for each leg but the last: how far the JUNCTION where it ends is off the STRING, without its sign");
        // junctions 1 and 3 are one step off the string from 0, 50 to 40, 50, on either side; 2 is on it
        RunSayer x = new RunSayer();
        places(x, 0, 50, 10, 51, 20, 50, 30, 49, 40, 50, 50, 99);
        for (int w = 0; w < 5; w++) {
            x.way(0, w, w + 1, 10, 0);
        }
        x.door(0, 5, 0);
        x.door(4, 5, 0);
        due("the string has 40 steps", x.best(0, 1, 0, 0), 5);
        check.found(x, "40 on the one side, 40 on the other one; the last end is far off", 80, 40, 0, 2, 4, 6, 8);
        due("back", x.best(1, 0, 0, 0), 5);
        check.found(x, "back", 80, 40, 9, 7, 5, 3, 1);
        RunSayer y = new RunSayer();
        places(y, 50, 50, 10, 90, 99, 0);
        y.way(0, 0, 1, 10, 0);
        y.way(0, 0, 2, 10, 0);
        y.way(0, 1, 2, 10, 0);
        y.door(0, 5, 0);
        y.door(1, 5, 0);
        y.ban(1, 2, 24, 127);
        due("a of both ways is one place: the string has no length", y.best(0, 1, 0, 0), 3);
        check.found(y, "nothing is off it", 0, 5 + 10 + 5, 0, 4, 3);
        RunSayer z = new RunSayer();
        places(z, 99, 99, 0, 0, 99, 0, 0, 99);
        z.way(0, 1, 0, 10, 0);
        z.way(0, 2, 0, 10, 0);
        z.door(0, 5, 0);
        z.door(1, 5, 0);
        due("junction 0 is as far off as can be", z.best(0, 1, 0, 0), 2);
        check.found(z, "99 times 99", 99 * 99, 5 + 5, 0, 3);
    }

    /** From way 0 into way 1, straight by the ways 2 or round by 3 and 4, whose junction is so far off. */
    private static RunSayer fork(int straight, int round, int off) {
        RunSayer x = new RunSayer();
        places(x, 0, 50, 10, 50, 20, 50 + off, 30, 50, 40, 50);
        x.way(0, 0, 1, 10, 0);
        x.way(0, 3, 4, 10, 0);
        x.way(0, 1, 3, straight, 0);
        x.way(0, 1, 2, round, 0);
        x.way(0, 2, 3, round, 0);
        x.door(0, 5, 0);
        x.door(1, 5, 0);
        return x;
    }

    private static void lessTwists() {
        check.sentence("BEST by TWISTS (0): the one with the least TWISTS, of these the least FEET");
        int[] offs = {-1, 0, 1}, feet = {19, 20, 21, 999};
        for (int off : offs) {
            for (int straight : feet) {
                RunSayer x = fork(straight, 10, off);
                boolean round = off == 0 && straight > 20;
                due("off " + off + ", straight " + straight, x.best(0, 1, 0, 0), round ? 4 : 3);
                due("twists", x.cost(0), 0);
                due("feet", x.cost(1), 10 + (round ? 20 : straight));
            }
        }
    }

    private static void lessFeet() {
        check.sentence("by FEET (1): the least FEET, of these the least TWISTS");
        int[] offs = {-1, 0, 1}, feet = {19, 20, 21, 999};
        for (int off : offs) {
            for (int straight : feet) {
                RunSayer x = fork(straight, 10, off);
                boolean round = straight > 20;
                due("off " + off + ", straight " + straight, x.best(0, 1, 0, 1), round ? 4 : 3);
                // the string is 30 steps long, and junction 2 alone is off it
                due("twists", x.cost(0), round ? 30 * Math.abs(off) : 0);
                due("feet", x.cost(1), 10 + Math.min(straight, 20));
            }
        }
    }

    private static void leastLeg() {
        check.sentence("Of like ones the least first leg; then at each step, of those that are as good: the least next leg");
        RunSayer x = fork(20, 10, 0);
        for (int by = 0; by < 2; by++) {
            due("like ones", x.best(0, 1, 0, by), 3);
            check.found(x, "leg 4 is less than leg 6", 0, 30, 0, 4, 2);
            due("back, like ones", x.best(1, 0, 0, by), 3);
            check.found(x, "leg 5 is less than leg 9", 0, 30, 3, 5, 1);
        }
        RunSayer y = new RunSayer();
        places(y, 0, 0, 10, 0);
        y.way(0, 0, 1, 10, 0);
        y.way(0, 0, 1, 10, 0);
        y.door(0, 5, 0);
        y.door(1, 5, 0);
        y.door(0, 6, 0);
        y.door(0, 4, 0);
        due("up and down are like ones", y.best(0, 1, 0, 1), 2);
        check.found(y, "up", 0, 10, 0, 3);
        due("up is less", y.best(2, 1, 0, 1), 2);
        check.found(y, "up", 0, 9, 0, 3);
        due("down is less", y.best(3, 1, 0, 1), 2);
        check.found(y, "down", 0, 9, 1, 2);
    }

    private static void endsOrGoesOn() {
        check.sentence("then one that ends there with one leg; one that can end with it ends");
        // a way of 20 feet whose ends a way of 2 feet joins: up and round is as long as down
        RunSayer x = new RunSayer();
        places(x, 0, 0, 10, 0);
        x.way(0, 0, 1, 20, 0);
        x.way(0, 0, 1, 2, 0);
        int[] feet = {11, 12, 13, 1};
        for (int f : feet) {
            x.door(0, f, 0);
        }
        due("10 feet down, 12 round", x.best(0, 3, 0, 1), 1);
        check.found(x, "down", 0, 10, 1);
        due("11 feet down, 11 round", x.best(1, 3, 0, 1), 3);
        check.found(x, "the least first leg, though one leg would do", 0, 11, 0, 3, 0);
        due("12 feet down, 10 round", x.best(2, 3, 0, 1), 3);
        check.found(x, "round", 0, 10, 0, 3, 0);
        due("11 feet up, 11 round", x.best(3, 1, 0, 1), 1);
        check.found(x, "one leg up", 0, 11, 0);
    }

    private static void comesAgain() {
        check.sentence("of all RUNS (a leg may come again)");
        RunSayer x = new RunSayer();
        places(x, 0, 0, 10, 0, 20, 0);
        x.way(0, 0, 1, 10, 1);
        x.way(0, 1, 0, 10, 1);
        x.way(0, 1, 2, 10, 0);
        x.door(0, 5, 0);
        x.door(0, 4, 0);
        x.door(2, 5, 0);
        due("one foot back, on a way of one direction", x.best(0, 1, 0, 0), 3);
        check.found(x, "leg 0 comes again", 0, 5 + 10 + 4, 0, 2, 0);
        due("one foot on", x.best(1, 0, 0, 0), 1);
        due("a way that ends is no way round", x.best(2, 2, 0, 0), BAD);
        x.ban(0, 4, 24, 127);
        due("no other turn leads to it", x.best(0, 2, 0, 0), 0);
    }

    /** The dear ones come first and last, so that no order in which legs are looked at is the right one by chance. */
    private static void dearOnes() {
        check.sentence("the least FEET");
        for (int turned = 0; turned < 2; turned++) {
            RunSayer x = new RunSayer();
            places(x, 0, 0, 10, 0, 20, 0, 30, 0, 40, 0, 50, 0, 60, 0);
            int[][] ways = {{0, 1, 10}, {1, 2, 400}, {1, 3, 10}, {3, 2, 200}, {3, 4, 10}, {4, 2, 100}, {4, 5, 10}, {5, 2, 10}, {2, 6, 10}};
            int[] number = new int[ways.length];
            for (int i = 0; i < ways.length; i++) {
                int w = turned == 0 ? i : ways.length - 1 - i;
                number[w] = x.way(0, ways[w][0], ways[w][1], ways[w][2], 0);
            }
            x.door(number[0], 5, 0);
            x.door(number[8], 5, 0);
            due("six legs", x.best(0, 1, 0, 1), 6);
            check.found(x, "by the cheap ones", 0, 5 + 40 + 5, 2 * number[0], 2 * number[2], 2 * number[4], 2 * number[6],
                    2 * number[7], 2 * number[8]);
            due("and back", x.best(1, 0, 0, 1), 6);
            due("and back", x.cost(1), 50);
            due("by twists", x.best(0, 1, 0, 0), 6);
            due("by twists", x.cost(1), 50);
            due("proof", x.prove(0, 1, 0), 18);
            due("from the first way's end", x.read(0, 2 * number[0]), 45);
            due("by the dear ones", x.read(0, 2 * number[1]), 5);
            due("bound", x.bound(0, 1, 0, 0), 50);
        }
    }

    private static void numbers(RunSayer x, int... numbers) {
        x.sheet(0, 2, numbers.length);
        for (int e = 0; e < numbers.length; e++) {
            x.cell(0, e, numbers[e]);
        }
    }

    private static void rightProof() {
        check.sentence("It is RIGHT, if: the number of e is -1, and neither f is of the goal's WAY nor has f a number; or it isn't above the PRICE of f and its number");
        // way 1, the middle one, is a lane: 10 and 20; the goal is on way 3; leg 7 has no number
        RunSayer x = new RunSayer();
        places(x, 0, 0, 10, 0, 20, 0, 30, 0, 40, 0);
        int[] kinds = {0, 1, 0, 0};
        for (int w = 0; w < 4; w++) {
            x.way(kinds[w], w, w + 1, 10, 0);
        }
        x.door(0, 5, 0);
        x.door(3, 5, 0);
        due("its size", x.prove(0, 1, 0), 8);
        due("it is right", x.bound(0, 1, 0, 0), 5 + 30 + 10 + 5);
        int[] of0 = {-1, 0, 44, 45, 46, 2147483647}, right = {0, 1, 1, 1, 0, 0};
        for (int i = 0; i < of0.length; i++) {
            numbers(x, of0[i], -1, 15, -1, 5, -1, -1, -1);
            due("leg 0 has " + of0[i] + ", leg 2 has 15", x.bound(0, 1, 0, 0), right[i] == 1 ? 5 + of0[i] : -100);
        }
        numbers(x, -1, -1, -1, -1, -1, -1, -1, -1);
        due("leg 0 may lead nowhere, leg 2 does not, nor does leg 4", x.bound(0, 1, 0, 0), -104);
        numbers(x, -1, -1, -1, -1, 5, -1, -1, -1);
        due("leg 2 leads into leg 4, which has a number", x.bound(0, 1, 0, 0), -102);
        numbers(x, 0, -1, 15, -1, 0, -1, -1, -1);
        due("leg 2 has one above the 10 and 0", x.bound(0, 1, 0, 0), -102);
        numbers(x, 0, -1, 10, -1, 0, -1, -1, -1);
        due("leg 2 has the 10 and 0", x.bound(0, 1, 0, 0), 5);
        int[] of5 = {-2, -1, 0, 1}, answers = {-105, 6, -107, -107};
        for (int i = 0; i < of5.length; i++) {
            numbers(x, 1, -1, 10, -1, 0, of5[i], -1, -1);
            due("leg 5 has " + of5[i] + ", leg 7 leads into it and has none", x.bound(0, 1, 0, 0), answers[i]);
        }
    }

    private static void rightProofOfGoal() {
        check.sentence("or it isn't above: the FEET from the beginning of f to the goal, if f is of its WAY");
        // leg 2 leads to the goal on way 2, 7 from its a; back from leg 7 it is 3
        RunSayer x = Cities.street(10, 10, 10, 10);
        x.door(2, 7, 0);
        int[] of2 = {-1, 0, 6, 7, 8};
        for (int n : of2) {
            numbers(x, 0, -1, n, -1, -1, -1, -1, 3);
            due("leg 2 has " + n, x.bound(0, 2, 0, 0), n < 0 || n > 7 ? -102 : 9);
        }
        int[] of7 = {-1, 0, 2, 3, 4};
        for (int n : of7) {
            numbers(x, 0, -1, 0, -1, -1, -1, -1, n);
            due("leg 7 has " + n, x.bound(0, 2, 0, 0), n < 0 || n > 3 ? -107 : 9);
        }
        // both hold it: leg 4 is of the goal's way and has a number, too
        numbers(x, 0, -1, 5, -1, 0, -1, -1, 3);
        due("not above 7, not above 10 and 0", x.bound(0, 2, 0, 0), 9);
        x.best(0, 2, 0, 1);
        due("and none is above the least feet", x.cost(1), 9 + 10 + 7);
    }

    private static void mayBeTurned() {
        check.sentence("each f that may be TURNED into behind it (f FOLLOWS, is DRIVABLE, isn't BANNED)");
        RunSayer x = Cities.street(10, 10);
        numbers(x, -1, -1, -1, -1);
        due("leg 0 leads to the goal", x.bound(0, 1, 0, 0), -100);
        x.ban(0, 2, 102, 127);
        due("it is banned", x.bound(0, 1, 1, 0), NONE);
        due("not in that hour", x.bound(0, 1, 2, 0), -100);
        x.shut(1, 0, 1);
        due("the goal's way is shut", x.bound(0, 1, 2, 0), NONE);
        x.pass(1);
        due("it is open today", x.bound(0, 1, 2, 0), -100);
        RunSayer y = Cities.street(10, 10);
        y.shut(0, 0, 1);
        numbers(y, -1, -1, -1, -1);
        due("e itself need not be drivable", y.bound(0, 1, 0, 0), -100);
        numbers(y, 9, -1, -1, -1);
        due("but it bounds nothing then", y.bound(0, 1, 0, 0), NONE);
    }

    private static void proofOfAllWays() {
        check.sentence("A PROOF for two DOORS is a row of numbers, one for each leg");
        RunSayer x = new RunSayer();
        for (int j = 0; j < 24; j++) {
            x.junction(4 * j, 0, 0);
        }
        for (int w = 0; w < 40; w++) {
            x.way(0, w < 23 ? w : 22, w < 23 ? w + 1 : 23, 10, 0);
        }
        x.door(0, 5, 0);
        x.door(22, 5, 0);
        due("its size", x.prove(0, 1, 0), 80);
        for (int e = 0; e < 46; e += 2) {
            due("number of leg " + e, x.read(0, e), e == 44 ? 15 : 5 + 10 * (21 - e / 2));
        }
        for (int e = 46; e < 80; e += 2) {
            due("number of leg " + e, x.read(0, e), 5);
            due("number of leg " + (e + 1), x.read(0, e + 1), 5);
        }
        due("behind it", x.cell(0, 80, 1), -12);
        due("it is right", x.bound(0, 1, 0, 0), 5 + 215);
        due("leg 79 has one more", x.cell(0, 79, 6), 1);
        due("it is wrong with it", x.bound(0, 1, 0, 0), -179);
        due("leg 79 has -1", x.cell(0, 79, -1), 1);
        due("it is wrong with it", x.bound(0, 1, 0, 0), -179);
        due("leg 79 has -2", x.cell(0, 79, -2), 1);
        due("it is wrong with it", x.bound(0, 1, 0, 0), -179);
        due("one less", x.sheet(0, 2, 79), 1);
        due("its size", x.bound(0, 1, 0, 0), -12);
        due("one more", x.sheet(0, 2, 81), 1);
        due("its size", x.bound(0, 1, 0, 0), -12);
    }

    private static void bound() {
        check.sentence("Its BOUND: for both legs of the first DOOR's WAY that are DRIVABLE: FEET from the DOOR to its end and its number, if it has one");
        RunSayer x = new RunSayer();
        places(x, 0, 0, 10, 0, 20, 0);
        x.way(0, 0, 1, 10, 0);
        x.way(0, 1, 2, 10, 0);
        x.door(0, 3, 0);
        x.door(1, 5, 0);
        int[][] tried = {{5, -1, 12}, {5, 9, 12}, {5, 8, 11}, {0, 4, 7}, {0, 3, 6}, {4, 2147483647, 11}};
        for (int[] t : tried) {
            // leg 3 leads into leg 1, so it has a number, if leg 1 has one
            numbers(x, t[0], t[1], -1, Math.min(t[1], 0));
            due("7 and " + t[0] + ", 3 and " + t[1], x.bound(0, 1, 0, 0), t[2]);
        }
        RunSayer y = new RunSayer();
        places(y, 0, 0, 10, 0, 20, 0);
        y.way(0, 0, 1, 10, 1);
        y.way(0, 1, 2, 10, 0);
        y.door(0, 3, 0);
        y.door(1, 5, 0);
        numbers(y, 5, 0, -1, -1);
        due("down is against one", y.bound(0, 1, 0, 0), 12);
        RunSayer z = Cities.street(10, 10);
        z.shut(1, 0, 1);
        int[] of0 = {2147483637, 2147483638, 2147483639, 2147483647}, bounds = {2147483646, 2147483647, 2147483647, 2147483647};
        for (int i = 0; i < of0.length; i++) {
            numbers(z, of0[i], -1, -1, -1);
            due("9 and " + of0[i] + " (2147483647, if it is above)", z.bound(0, 1, 0, 0), bounds[i]);
        }
    }

    private static void boundBetween() {
        check.sentence("those between the DOORS, if the other one lies ahead on it");
        RunSayer x = Cities.street(10, 10);
        int[] feet = {4, 5, 6, 5};
        for (int f : feet) {
            x.door(0, f, 0);
        }
        numbers(x, -1, -1, -1, 4);
        due("one foot ahead, down", x.bound(3, 2, 0, 0), 1);
        due("one foot ahead, up", x.bound(3, 4, 0, 0), 1);
        due("side by side", x.bound(3, 5, 0, 0), NONE);
        x.shut(0, 0, 1);
        due("the leg is shut", x.bound(3, 4, 0, 0), NONE);
    }

    // ---- 3 A SAID RUN

    private static void tape() {
        check.sentence("THE TAPE (160 bytes at most)");
        for (int n = 1; n <= 8; n++) {
            RunSayer x = Cities.square();
            Cities.feed(x, "x".repeat(160 - n));
            due("bytes", x.count(11), 160 - n);
            due("one too many", n < 8 ? x.feed('x', n + 1) : FULL, FULL);
            due(n + " more", x.feed('x', n), 160);
            due("one more", x.feed('x', 1), FULL);
            due("0 bytes", x.feed('x', 0), BAD);
            due("9 bytes", x.feed('x', 9), BAD);
            due("bytes", x.wipe(), 160);
        }
        RunSayer x = Cities.around();
        String text = "leave up" + " left a".repeat(20) + " set    left";
        due("160 bytes", text.length(), 160);
        due("all of them can be said", Cities.say(x, 0, 1, 0, text), 0);
        RunSayer y = Cities.around();
        due("the fault at the end", Cities.say(y, 0, 1, 0, text.substring(0, 148) + " ".repeat(12)), -100 - 160);
        due("the fault is the last byte", Cities.say(y, 0, 1, 0, text.substring(0, 148) + " ".repeat(11) + "x"), -100 - 159);
    }

    private static void said(String text, long want) {
        RunSayer x = Cities.street(10, 10);
        due("'" + text + "'", Cities.say(x, 0, 1, 0, text), want);
        due("the tape is empty behind it", x.count(11), 0);
    }

    private static void blanks() {
        check.sentence("blanks (32) may stand ahead of each TOKEN");
        String[] tokens = {"leave", "up", "ahead", "a", "set", "left"};
        for (int at = 0; at <= tokens.length; at++) {
            for (int blanks = 1; blanks < 4; blanks++) {
                StringBuilder text = new StringBuilder();
                for (int i = 0; i < tokens.length; i++) {
                    text.append(i == at ? " ".repeat(blanks) : i == 0 ? "" : " ").append(tokens[i]);
                }
                said(text + (at == tokens.length ? " ".repeat(blanks) : ""), 0);
            }
        }
        said("leave\tup ahead a set left", -105);
        said("leave\u00a0up ahead a set left", -105);
        said("leave!up ahead a set left", -105);
        said("leaveup ahead a set left", -100);
        said("leave upahead a set left", -106);
        said("leave up aheada set left", -109);
        said("leave up ahead aset left", -124);
        said("leave up ahead a setleft", -117);
    }

    private static void leave() {
        check.sentence("leave, up or down; then, up to 20 times, a turn; then set, left or right; then nothing");
        said("leave up ahead a set left", 0);
        said("leave down ahead a set left", -1012);
        said("leave left ahead a set left", -106);
        said("set up ahead a set left", -100);
        said("leave up set left", -1006);
        said("leave up set right", -1006);
        said("leave up set up", -113);
        said("leave up set", -112);
        said("leave up ahead a set left a", -126);
        said("leave up ahead a set left 1", -126);
        said("leave up ahead a set left set left", -126);
    }

    private static void turns() {
        check.sentence("up to 20 times, a turn (A 21st turn can't begin.)");
        int[] many = {0, 1, 19, 20, 21};
        for (int n : many) {
            RunSayer x = Cities.around();
            String text = "leave up" + " left a".repeat(n);
            long want = n == 0 || n % 4 == 0 ? 0 : -1000 - 10 * n - 6;
            due(n + " turns", Cities.say(x, 0, 1, 0, text + (n > 20 ? "" : " set left")), n > 20 ? -100 - 149 : want);
        }
        String[] turns = {"left", "right", "ahead", "comply", "comply 1 a"};
        for (String turn : turns) {
            RunSayer x = Cities.around();
            due("21st: " + turn, Cities.say(x, 0, 1, 0, "leave up" + " left a".repeat(20) + " " + turn), -100 - 149);
        }
    }

    private static void digit() {
        check.sentence("comply, a digit 1 .. 9 (and no other digit behind it), and a NAME");
        RunSayer x = new RunSayer();
        places(x, 50, 50);
        x.ring(0, 1);
        for (int i = 0; i < 11; i++) {
            x.junction(40 + i, 60, 0);
            x.way(0, i + 1, 0, 9, 0);
            x.name(i, 'a');
            if (i == 0 || i == 1 || i == 9 || i == 10) {
                x.door(i, 1, 1);
            }
        }
        // exit n behind way 0 is way n: doors 1, 2 and 3 are on the first, ninth and tenth one
        due("comply 0", Cities.say(x, 0, 1, 0, "leave up comply 0 a set left"), -116);
        due("comply 1", Cities.say(x, 0, 1, 0, "leave up comply 1 a set left"), 0);
        due("comply 1, without blanks", Cities.say(x, 0, 1, 0, "leave up comply1a set left"), 1);
        due("comply 9", Cities.say(x, 0, 2, 0, "leave up comply 9 a set left"), 2);
        due("comply 9 is not the tenth", Cities.say(x, 0, 3, 0, "leave up comply 9 a set left"), -1016);
        due("comply 10", Cities.say(x, 0, 3, 0, "leave up comply 10 a set left"), -116);
        due("comply 90", Cities.say(x, 0, 2, 0, "leave up comply 90 a set left"), -116);
        due("comply 09", Cities.say(x, 0, 2, 0, "leave up comply 09 a set left"), -116);
        due("comply 9 1", Cities.say(x, 0, 2, 0, "leave up comply 9 1 a set left"), -118);
        due("comply /", Cities.say(x, 0, 2, 0, "leave up comply / a set left"), -116);
        due("comply :", Cities.say(x, 0, 2, 0, "leave up comply : a set left"), -116);
        due("comply a", Cities.say(x, 0, 2, 0, "leave up comply a set left"), -116);
        due("comply at the end", Cities.say(x, 0, 2, 0, "leave up comply"), -115);
        due("comply 9 at the end", Cities.say(x, 0, 2, 0, "leave up comply 9"), -117);
        due("comply 9 and 9 letters", Cities.say(x, 0, 2, 0, "leave up comply 9 aaaaaaaaa set left"), -118);
        due("nothing else was said", x.count(7), 3);
    }

    private static void tokens() {
        check.sentence("TOKENS of letters are as long as can be; one with more than 8 letters, or with none, can't stand");
        for (int letters = 1; letters < 12; letters++) {
            RunSayer x = Cities.street(10, 10);
            String name = "abcdefghijkl".substring(0, letters);
            due("a name of " + letters, x.name(1, Cities.word(name.substring(0, Math.min(8, letters)))), 2);
            due("it is said", Cities.say(x, 0, 1, 0, "leave up ahead " + name + " set left"), letters < 9 ? 0 : -115);
        }
        said("leave up ahead  set left", -124);
        said("leave up ahead . set left", -115);
        said("leave up . a set left", -109);
        said("leave 9 a set left", -106);
        said("leave up ahead a@ set left", -116);
        said("leave up ahead a` set left", -116);
        said("leave up ahead a{ set left", -116);
        said("leave up ahead A set left", -115);
        said("leave up ahead Z set left", -115);
        RunSayer x = Cities.street(10, 10);
        x.name(1, Cities.word("z"));
        x.name(1, Cities.word("set"));
        x.name(1, Cities.word("left"));
        x.name(1, Cities.word("comply"));
        due("a name z", Cities.say(x, 0, 1, 0, "leave up ahead z set left"), 0);
        due("a name set (any WORD)", Cities.say(x, 0, 1, 0, "leave up ahead set set left"), 1);
        due("a name left", Cities.say(x, 0, 1, 0, "leave up ahead left set left"), 2);
        due("a name comply", Cities.say(x, 0, 1, 0, "leave up ahead comply set left"), 3);
    }

    private static void theEnd() {
        check.sentence("FAULT: the place of the first byte of the first TOKEN that can't stand, the end of THE TAPE, if it ends too early");
        String text = "leave up comply 3 a set left";
        int[] starts = {0, 6, 9, 16, 18, 20, 24}, ends = {5, 8, 15, 17, 19, 23, 28};
        for (int i = 0; i < starts.length; i++) {
            said(text.substring(0, starts[i]), -100 - starts[i]);
            said(text.substring(0, starts[i]) + "?" + text.substring(ends[i]), -100 - starts[i]);
            said(text.substring(0, ends[i]) + (i < 6 ? "" : "x"), i < 6 ? -100 - ends[i] : -124);
            // a token that is cut ends the tape, but it is the token that can't stand
            if (ends[i] - starts[i] > 1) {
                said(text.substring(0, ends[i] - 1), -100 - starts[i]);
            }
        }
        said(text, -1013);
    }

    private static void steps() {
        check.sentence("WHY not, the first STEP that can't be");
        RunSayer x = Cities.square();
        x.door(1, 20, 0);
        due("as it is", Cities.say(x, 0, 1, 0, "leave up left oak left ash set right"), 0);
        due("2 in step 2", Cities.say(x, 0, 1, 0, "leave up left oak left elk set right"), -1022);
        due("2: oak follows, elm is its own way", Cities.say(x, 0, 1, 0, "leave up left elm left ash set right"), -1012);
        due("3 in step 1", Cities.say(x, 0, 1, 0, "leave up right oak left ash set right"), -1013);
        due("3 in step 2", Cities.say(x, 0, 1, 0, "leave up left oak ahead ash set right"), -1023);
        due("6 in step 1", Cities.say(x, 0, 1, 0, "leave up left oak set right"), -1016);
        due("6 in step 0", Cities.say(x, 0, 1, 0, "leave up set right"), -1006);
        due("6 in step 3", Cities.say(x, 0, 1, 0, "leave up left oak left ash left fir set right"), -1036);
        due("7 in step 2", Cities.say(x, 0, 1, 0, "leave up left oak left ash set left"), -1027);
        due("step 1 comes ahead of step 2", Cities.say(x, 0, 1, 0, "leave up right oak left elk set left"), -1013);
        x.ban(2, 4, 102, 127);
        due("5 in step 2", Cities.say(x, 0, 1, 1, "leave up left oak left ash set left"), -1025);
        due("not in hour 2", Cities.say(x, 0, 1, 2, "leave up left oak left ash set left"), -1027);
        x.shut(2, 1, 2);
        due("not shut today", Cities.say(x, 0, 1, 2, "leave up left oak left ash set left"), -1027);
        x.pass(1);
        due("4 in step 2, ahead of 5", Cities.say(x, 0, 1, 1, "leave up left oak left ash set left"), -1024);
        x.pass(1);
        due("not shut today", Cities.say(x, 0, 1, 2, "leave up left oak left ash set right"), 1);
        x.shut(0, 2, 3);
        due("1 in step 0, ahead of 3 in step 1", Cities.say(x, 0, 1, 1, "leave up right oak left ash set left"), -1001);
        due("a fault comes ahead of it", Cities.say(x, 0, 1, 1, "leave up right oak left ash set"), -100 - 31);
    }

    private static void setDown() {
        check.sentence("7 one is set down on the wrong side (left: the SIDE 0, going up, 1, going down)");
        for (int side = 0; side < 2; side++) {
            RunSayer x = Cities.square();
            x.door(1, 20, side);
            boolean left = side == 0;
            due("up, left", Cities.say(x, 0, 2, 0, "leave up left oak set left"), left ? 0 : -1017);
            due("up, right", Cities.say(x, 0, 2, 0, "leave up left oak set right"), left ? -1017 : 0);
            String down = "leave down right fir right ash right oak";
            due("down, left", Cities.say(x, 0, 2, 0, down + " set left"), left ? -1037 : 1);
            due("down, right", Cities.say(x, 0, 2, 0, down + " set right"), left ? 1 : -1037);
        }
    }

    private static void saidRuns() {
        check.sentence("If it can be driven it is kept: SAID RUNS are numbered from 0 on, 10 at most");
        RunSayer x = Cities.street(10, 10);
        for (int r = 0; r < 10; r++) {
            due("it can't be driven", Cities.say(x, 0, 1, 0, "leave up ahead b set left"), -1012);
            due("it has a fault", Cities.say(x, 0, 1, 0, "leave up a"), -109);
            due("run " + r, Cities.say(x, 0, 1, 0, "leave up ahead a set left"), r);
        }
        due("an eleventh that can be driven", Cities.say(x, 0, 1, 0, "leave up ahead a set left"), FULL);
        due("the tape stays", x.wipe(), 25);
        due("an eleventh with a fault", Cities.say(x, 0, 1, 0, "x"), FULL);
        due("the tape stays", x.wipe(), 1);
        due("an eleventh of nothing", x.say(0, 1, 0), FULL);
        due("ahead of it: no door", x.say(0, 2, 0), NONE);
        due("ahead of it: hour 24", x.say(0, 1, 24), BAD);
    }
}
