/** Promises 27 to 34: pupils, their links, plans, and the ask that parts them. */
final class PupilsTest {
    private static final Check check = new Check("PupilsTest");
    private static final String NEAR = "leave up left oak left ash set right";
    private static final String FAR = "leave down right fir right ash set left";
    private static final String AROUND = "leave up left oak left ash left fir left elm left oak left ash set right";

    public static void main(String[] args) {
        pupil();
        ride();
        holds();
        knows();
        wouldSay();
        wouldSayStraight();
        wouldSayOpen();
        wouldSayLongest();
        plan();
        planRows();
        planRefused();
        parting();
        partingFour();
        check.end();
    }

    private static void due(String call, long got, long want) {
        check.due(call, got, want);
    }

    /** The square with the runs NEAR (0, 2 links), FAR (1, 2 links) and AROUND (2, 4 links, two of them NEAR's). */
    private static RunSayer school(int... keeps) {
        RunSayer x = Cities.square();
        Cities.say(x, 0, 1, 6, NEAR);
        Cities.say(x, 0, 1, 6, FAR);
        Cities.say(x, 0, 1, 6, AROUND);
        for (int k : keeps) {
            x.pupil(k);
        }
        return x;
    }

    private static void pupil() {
        check.promise(27, "pupil");
        RunSayer x = new RunSayer();
        due("keeps 0", x.pupil(0), RunSayer.BAD);
        due("keeps 31", x.pupil(31), RunSayer.BAD);
        due("keeps -1", x.pupil(-1), RunSayer.BAD);
        due("keeps 1", x.pupil(1), 0);
        due("keeps 30", x.pupil(30), 1);
        due("a third", x.pupil(5), 2);
        due("a fourth", x.pupil(5), 3);
        due("a fifth", x.pupil(5), RunSayer.FULL);
        due("a fifth that is bad", x.pupil(0), RunSayer.BAD);
        due("count(8)", x.count(8), 4);
    }

    private static void ride() {
        check.promise(28, "ride");
        RunSayer x = school(1, 30);
        due("no pupil", x.ride(2, 0), RunSayer.NONE);
        due("no pupil", x.ride(-1, 0), RunSayer.NONE);
        due("no run", x.ride(0, 3), RunSayer.NONE);
        due("no run", x.ride(0, -1), RunSayer.NONE);
        due("two links", x.ride(0, 0), 2);
        due("the same two", x.ride(0, 0), 2);
        due("two more", x.ride(0, 1), 4);
        due("two more of four", x.ride(0, 2), 6);
        due("the other pupil", x.ride(1, 2), 4);
        x.pass(2);
        due("FAR is forgotten, NEAR ridden thrice lasts 4 days", x.ride(0, 0), 2 + 0);
        x.pass(10);
        due("NEAR, ridden four times, is forgotten", x.ride(0, 1), 2);
        due("the other pupil keeps", x.ride(1, 1), 6);
    }

    private static void holds() {
        check.promise(29, "holds");
        RunSayer x = school(2, 30, 3);
        due("no pupil", x.holds(3, 0, 2, 0), RunSayer.NONE);
        due("no leg", x.holds(0, 8, 2, 0), RunSayer.NONE);
        due("no leg", x.holds(0, 0, 8, -1), RunSayer.NONE);
        due("leg -1", x.holds(0, -1, 2, 0), RunSayer.NONE);
        due("day -1", x.holds(0, 0, 2, -1), RunSayer.BAD);
        due("day 2001", x.holds(0, 0, 2, 2001), RunSayer.BAD);
        due("not ridden", x.holds(0, 0, 2, 0), 0);
        x.pass(7);
        due("yesterday", x.holds(0, 0, 2, 6), RunSayer.BAD);
        x.ride(0, 0);
        due("today", x.holds(0, 0, 2, 7), 1);
        due("two days behind it", x.holds(0, 0, 2, 9), 1);
        due("three days behind it", x.holds(0, 0, 2, 10), 0);
        due("the second link", x.holds(0, 2, 4, 9), 1);
        due("back is another link", x.holds(0, 3, 1, 7), 0);
        due("no link at all", x.holds(0, 0, 1, 7), 0);
        due("the other pupil", x.holds(1, 0, 2, 7), 0);
        x.pass(1);
        x.ride(0, 2);
        due("ridden twice: four days from day 8", x.holds(0, 0, 2, 12), 1);
        due("ridden twice: not five", x.holds(0, 0, 2, 13), 0);
        due("ridden once in the other run", x.holds(0, 6, 0, 10), 1);
        due("ridden once in the other run", x.holds(0, 6, 0, 11), 0);
        x.pass(20);
        x.ride(0, 0);
        due("forgotten, but the times count: thrice", x.holds(0, 0, 2, 28 + 8), 1);
        due("forgotten, but the times count: thrice", x.holds(0, 0, 2, 28 + 9), 0);
        for (int i = 0; i < 9; i++) {
            x.ride(1, 0);
            if (i < 6) {
                due("ridden " + (i + 1) + " times on a day", x.holds(1, 0, 2, 28 + (30 << i)), 1);
                due("ridden " + (i + 1) + " times on a day", x.holds(1, 0, 2, 29 + (30 << i)), 0);
            }
        }
        due("six times at most", x.holds(1, 0, 2, 28 + 960), 1);
        due("six times at most", x.holds(1, 0, 2, 28 + 961), 0);
        due("day 2000", x.holds(1, 0, 2, 2000), 0);
    }

    private static void knows() {
        check.promise(30, "knows");
        RunSayer x = school(2, 5);
        due("no pupil", x.knows(2, 0), RunSayer.NONE);
        due("no pupil, a bad day", x.knows(-1, -1), RunSayer.NONE);
        due("day -1", x.knows(0, -1), RunSayer.BAD);
        due("day 2001", x.knows(0, 2001), RunSayer.BAD);
        due("nothing", x.knows(0, 0), 0);
        x.ride(0, 0);
        x.pass(1);
        due("yesterday", x.knows(0, 0), RunSayer.BAD);
        x.ride(0, 1);
        due("four", x.knows(0, 2), 4);
        due("FAR's two", x.knows(0, 3), 2);
        due("none", x.knows(0, 4), 0);
        due("none on day 2000", x.knows(0, 2000), 0);
        due("the other pupil", x.knows(1, 1), 0);
    }

    private static void wouldSay() {
        check.promise(31, "wouldSay");
        RunSayer x = school(2, 2);
        due("no pupil", x.wouldSay(2, 0, 1, 6), RunSayer.NONE);
        due("no pupil", x.wouldSay(-1, 0, 0, 6), RunSayer.NONE);
        due("no door", x.wouldSay(0, 2, 1, 6), RunSayer.NONE);
        due("no door", x.wouldSay(0, 0, -1, 24), RunSayer.NONE);
        due("the same door", x.wouldSay(0, 1, 1, 6), RunSayer.BAD);
        due("hour 24", x.wouldSay(0, 0, 1, 24), RunSayer.BAD);
        due("hour -1", x.wouldSay(0, 0, 1, -1), RunSayer.BAD);
        x.best(0, 1, 6, 0);
        due("he knows nothing", x.wouldSay(0, 0, 1, 6), 0);
        due("it is what was found last", x.cost(1), -1);
        due("it is what was found last", x.leg(0), RunSayer.NONE);
        x.ride(0, 0);
        due("NEAR", x.wouldSay(0, 0, 1, 6), 3);
        due("its first leg", x.leg(0), 0);
        due("its last leg", x.leg(2), 4);
        due("its feet", x.cost(1), 30 + 40 + 30);
        due("its twists", x.cost(0), 1600);
        due("the best one has less feet", x.best(0, 1, 6, 0) * 100 + x.cost(1), 360);
        due("not back", x.wouldSay(0, 1, 0, 6), 0);
        due("the other pupil", x.wouldSay(1, 0, 1, 6), 0);
        x.ride(0, 1);
        due("FAR is better", x.wouldSay(0, 0, 1, 6), 3);
        due("its first leg", x.leg(0), 1);
        x.shut(3, 0, 299);
        x.shut(0, 0, 299);
        x.ban(1, 7, 24, 127);
        due("what is shut or banned counts for nothing", x.wouldSay(0, 0, 1, 6), 3);
        due("its feet", x.cost(1), 60);
        x.ride(0, 0);
        x.pass(3);
        due("FAR is forgotten", x.wouldSay(0, 0, 1, 6), 3);
        due("NEAR's first leg", x.leg(0), 0);
        x.pass(2);
        due("NEAR is forgotten", x.wouldSay(0, 0, 1, 6), 0);
        x.door(0, 20, 0);
        due("one leg needs no link", x.wouldSay(0, 0, 2, 6), 1);
        due("it is shut, but he would say it", x.cost(1), 10);
    }

    /** The straightest run that he holds, though there is a shorter one. */
    private static void wouldSayStraight() {
        RunSayer x = Cities.square();
        x.junction(30, 30, 0);
        x.way(1, 0, 4, 40, 0);
        x.way(4, 4, 2, 40, 0);
        x.name(4, Cities.word("lane"));
        x.name(5, Cities.word("tube"));
        x.pupil(1);
        Cities.say(x, 0, 1, 6, FAR);
        Cities.say(x, 0, 1, 6, "leave down right lane ahead tube left ash set right");
        x.ride(0, 0);
        due("FAR", x.wouldSay(0, 0, 1, 6), 3);
        x.ride(0, 1);
        due("across", x.wouldSay(0, 0, 1, 6), 4);
        due("its twists", x.cost(0), 0);
        due("its feet", x.cost(1), 10 + 60 + 44 + 30);
        due("in hour 7", x.wouldSay(0, 0, 1, 7), 4);
        due("its feet", x.cost(1), 10 + 60 + 88 + 30);
    }

    private static void wouldSayOpen() {
        RunSayer x = new RunSayer();
        x.junction(0, 0, 0);
        x.junction(1, 0, 0);
        x.junction(2, 0, 0);
        x.way(3, 0, 1, 10, 1);
        x.way(0, 1, 2, 10, 0);
        x.name(0, Cities.word("a"));
        x.name(1, Cities.word("b"));
        x.door(0, 5, 0);
        x.door(1, 5, 0);
        x.door(0, 3, 0);
        x.pupil(1);
        Cities.say(x, 0, 1, 6, "leave up ahead b set left");
        x.ride(0, 0);
        due("in hour 21", x.wouldSay(0, 0, 1, 21), 2);
        due("in hour 22 the alley is closed", x.wouldSay(0, 0, 1, 22), 0);
        x.pupil(1);
        check.promise(34, "parting");
        due("in hour 22 the alley is closed for both", x.parting(3, 22), RunSayer.STATE);
        due("in hour 6 it parts them", x.parting(3, 6), 1);
        due("in hour 4 it does not", x.parting(3, 4), RunSayer.STATE);
        check.promise(31, "wouldSay");
        due("against one", x.wouldSay(0, 0, 2, 6), 0);
        due("with it", x.wouldSay(0, 2, 0, 6), 1);
    }

    /** To and fro over 40 ways between two junctions: all 78 legs of 39 ways lie between two doors side by side. */
    private static void wouldSayLongest() {
        RunSayer x = new RunSayer();
        x.junction(0, 0, 0);
        x.junction(9, 0, 0);
        String[] names = new String[40];
        for (int w = 0; w < 40; w++) {
            names[w] = w < 26 ? "" + (char) ('a' + w) : "z" + (char) ('a' + w - 26);
            x.way(0, 0, 1, 10, 0);
            x.name(w, Cities.word(names[w]));
        }
        int[] ends = {0, 16, 32, 48, 64, 79}, doors = {0, 1, 2, 3, 4, 5}, ways = {0, 16, 32, 9, 25, 0};
        for (int w : ways) {
            x.door(w, 5, 0);
        }
        x.pupil(30);
        for (int r = 0; r < 5; r++) {
            StringBuilder text = new StringBuilder("leave up");
            for (int at = ends[r] + 1; at <= ends[r + 1]; at++) {
                text.append(" left ").append(names[at == 79 ? 0 : at < 40 ? at : at - 39]);
            }
            due("part " + r, Cities.say(x, doors[r], doors[r + 1], 0, text + (r == 4 ? " set right" : " set left")), r);
            due("its links", x.ride(0, r), ends[r + 1]);
        }
        due("all of them", x.wouldSay(0, 0, 5, 0), 80);
        due("its feet", x.cost(1), 5 + 78 * 10 + 5);
        for (int at = 1; at < 79; at++) {
            due("leg " + at, x.leg(at), 2 * (at < 40 ? at : at - 39) + at % 2);
        }
        due("the first leg", x.leg(0), 0);
        due("the last leg", x.leg(79), 1);
        due("behind it", x.leg(80), RunSayer.NONE);
        x.ask(0, 0, 5, 0);
        due("in an exam", x.examTold(0, 6), 80);
    }

    private static void plan() {
        check.promise(32, "plan");
        RunSayer x = school(2);
        due("NEAR once, for today", x.plan(0, 1, 1, 0), 2);
        due("FAR once", x.plan(0, 2, 1, 2), 2);
        due("row", x.planned(0), 1);
        due("FAR once, for too late", x.plan(0, 2, 1, 3), 0);
        due("AROUND has more links than NEAR", x.plan(0, 7, 1, 2), 4);
        due("row", x.planned(0), 2);
        due("on two days for day 1: AROUND and FAR in any order", x.plan(0, 7, 2, 1), 6);
        due("the first by numbers: 1 then 2", x.planned(0) * 10 + x.planned(1), 12);
        due("for day 3: what is ridden on day 1 alone lasts, and twice what is ridden twice", x.plan(0, 7, 2, 3), 4);
        due("the first by numbers: 0 then 2", x.planned(0) * 10 + x.planned(1), 2);
        due("for day 5: twice AROUND, up to day 1 + 4", x.plan(0, 7, 2, 5), 4);
        due("row", x.planned(0) * 10 + x.planned(1), 22);
        due("for day 6: nothing lasts", x.plan(0, 7, 2, 6), 0);
        due("the first row", x.planned(0) * 10 + x.planned(1), 0);
        x.ride(0, 1);
        due("what he holds counts, too", x.plan(0, 1, 1, 2), 4);
        due("on day 3 it does not", x.plan(0, 1, 1, 3), 0);
        due("FAR a second time", x.plan(0, 2, 1, 4), 2);
        due("planning is not riding", x.knows(0, 0), 2);
        x.pass(3);
        due("from today on: for day 5", x.plan(0, 1, 1, 5), 2);
        due("for day 6", x.plan(0, 1, 1, 6), 0);
        due("FAR was ridden once: four days more", x.plan(0, 2, 1, 7), 2);
        due("not five", x.plan(0, 2, 1, 8), 0);
        sixTimes();
    }

    private static void sixTimes() {
        RunSayer x = school(1);
        for (int i = 0; i < 4; i++) {
            x.ride(0, 0);
        }
        due("six times: 32 days behind day 1", x.plan(0, 1, 2, 33), 2);
        due("six times", x.plan(0, 1, 2, 34), 0);
        due("six times at most: 32 days behind day 3", x.plan(0, 1, 4, 35), 2);
        due("six times at most", x.plan(0, 1, 4, 36), 0);
        x.pass(100);
        x.pass(100);
        x.pass(99);
        due("beyond the last day", x.plan(0, 1, 4, 302), 2);
        due("not ahead of the last ride", x.plan(0, 1, 4, 301), RunSayer.BAD);
    }

    private static void planRows() {
        check.promise(33, "planned");
        RunSayer x = school(1, 1);
        due("nothing was planned", x.planned(0), RunSayer.NONE);
        due("four days, two runs, for day 4", x.plan(0, 3, 4, 4), 4);
        // a run ridden twice, last on day 2, lasts to day 4; one ridden on day 3 lasts to day 4
        int[] row = {0, 0, 0, 1};
        for (int i = 0; i < 4; i++) {
            due("day " + i, x.planned(i), row[i]);
        }
        due("day 4", x.planned(4), RunSayer.NONE);
        due("day -1", x.planned(-1), RunSayer.NONE);
        due("a refusal", x.plan(0, 3, 0, 4), RunSayer.BAD);
        due("its row is kept", x.planned(3), 1);
        due("two days, for day 3", x.plan(0, 3, 2, 3), 2);
        due("the row 0, 0", x.planned(0) * 10 + x.planned(1), 0);
        due("the longer row is gone", x.planned(2), RunSayer.NONE);
        due("the second bit alone", x.plan(0, 2, 3, 3), 2);
        due("day 2", x.planned(2), 1);
        for (int r = 3; r < 10; r++) {
            Cities.say(x, 0, 1, 6, r == 9 ? AROUND : NEAR);
        }
        due("runs 3, 8 and 9", x.plan(1, 8 + 256 + 512, 1, 1), 4);
        due("the last run", x.planned(0), 9);
        due("runs 5 to 8: like ones", x.plan(1, 32 + 64 + 128 + 256, 4, 4), 2);
        for (int i = 0; i < 4; i++) {
            due("the first by numbers", x.planned(i), 5);
        }
        due("four runs, the last one is the best", x.plan(1, 1 + 8 + 16 + 512, 1, 0), 4);
        due("day 0", x.planned(0), 9);
    }

    private static void planRefused() {
        check.promise(32, "plan");
        RunSayer x = school(3);
        due("no pupil", x.plan(1, 1, 1, 0), RunSayer.NONE);
        due("no pupil, nothing else", x.plan(-1, 0, 0, -1), RunSayer.NONE);
        due("no run 3", x.plan(0, 8, 1, 0), RunSayer.NONE);
        due("run 0 and no run 3", x.plan(0, 9, 9, 0), RunSayer.NONE);
        due("all bits", x.plan(0, -1, 1, 0), RunSayer.NONE);
        due("the highest bit", x.plan(0, Integer.MIN_VALUE, 1, 0), RunSayer.NONE);
        due("no runs", x.plan(0, 0, 1, 0), RunSayer.BAD);
        due("0 days", x.plan(0, 1, 0, 0), RunSayer.BAD);
        due("5 days", x.plan(0, 1, 5, 9), RunSayer.BAD);
        due("for a day ahead of the last one", x.plan(0, 1, 4, 2), RunSayer.BAD);
        due("for the last one", x.plan(0, 1, 4, 3), 2);
        due("day 2001", x.plan(0, 1, 1, 2001), RunSayer.BAD);
        due("day 2000", x.plan(0, 1, 1, 2000), 0);
        due("for yesterday", x.plan(0, 1, 1, -1), RunSayer.BAD);
        Cities.say(x, 0, 1, 6, NEAR);
        Cities.say(x, 0, 1, 6, NEAR);
        due("four runs", x.plan(0, 15, 1, 0), 4);
        due("five runs", x.plan(0, 31, 1, 0), RunSayer.BAD);
    }

    private static void parting() {
        check.promise(34, "parting");
        RunSayer x = school(2, 2, 2);
        due("no pupils", x.parting(0, 6), RunSayer.NONE);
        due("no such one", x.parting(8, 6), RunSayer.NONE);
        due("one and no such one", x.parting(9, 24), RunSayer.NONE);
        due("all bits", x.parting(-1, 6), RunSayer.NONE);
        due("hour 24", x.parting(1, 24), RunSayer.BAD);
        due("hour -1", x.parting(7, -1), RunSayer.BAD);
        due("one is alike himself", x.parting(1, 6), RunSayer.STATE);
        due("nothing is alike, too", x.parting(7, 6), RunSayer.STATE);
        x.ride(1, 0);
        x.best(0, 1, 6, 0);
        due("pupil 1 says NEAR, the others nothing", x.parting(7, 6), 1);
        due("pupils 0 and 1", x.parting(3, 6), 1);
        due("pupils 0 and 2", x.parting(5, 6), RunSayer.STATE);
        due("what was found last stays", x.leg(0), 1);
        x.ride(0, 0);
        x.ride(2, 0);
        due("all say NEAR", x.parting(7, 6), RunSayer.STATE);
        x.ride(0, 1);
        due("pupil 0 says FAR", x.parting(7, 6), 1);
        due("pupils 1 and 2", x.parting(6, 6), RunSayer.STATE);
        Cities.say(x, 1, 0, 6, "leave up left fir left elm set left");
        x.ride(1, 3);
        due("still the least first door", x.parting(7, 6), 1);
        due("pupils 1 and 2: back", x.parting(6, 6), 10);
        x.ride(0, 3);
        x.ride(2, 3);
        x.door(1, 20, 0);
        due("from door 1 to 0 all are alike; 0 to 1 parts them", x.parting(5, 6), 1);
    }

    private static void partingFour() {
        RunSayer x = school(2, 2, 2, 2);
        x.ride(0, 0);
        x.ride(1, 0);
        x.ride(1, 1);
        Cities.say(x, 1, 0, 6, "leave up left fir left elm set left");
        Cities.say(x, 1, 0, 6, "leave down right oak right elm set right");
        x.ride(1, 3);
        x.ride(2, 4);
        x.ride(3, 3);
        x.ride(3, 4);
        // from 0 to 1: NEAR, FAR, nothing, nothing; back: nothing, way of run 3, of run 4, of the better one of both
        due("like ones: 2 of 4 each way", x.parting(15, 6), 1);
        due("the set 0, 2, 3: 2 of 3, back 1 of 3", x.parting(13, 6), 10);
        due("the set 1, 2, 3: 2 of 3 in both", x.parting(14, 6), 1);
        due("the set 2, 3: back alone", x.parting(12, 6), 10);
        x.door(2, 32, 0);
        due("with a third door", x.parting(12, 6), 10);
        due("no doors", emptyParting(), RunSayer.STATE);
    }

    private static int emptyParting() {
        RunSayer x = new RunSayer();
        x.pupil(1);
        x.pupil(2);
        return x.parting(3, 0);
    }
}
