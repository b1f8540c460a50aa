/** Promises 1 to 15: junctions, ways, doors, names, days. */
final class CityTest {
    private static final Check check = new Check("CityTest");

    public static void main(String[] args) {
        newObject();
        junction();
        ring();
        way();
        door();
        about();
        taken();
        takenFromFullCity();
        name();
        answers();
        shut();
        wasShut();
        ban();
        pass();
        turn();
        turnInRing();
        drivable();
        check.end();
    }

    private static void due(String call, long got, long want) {
        check.due(call, got, want);
    }

    private static RunSayer twoJunctions() {
        RunSayer x = new RunSayer();
        x.junction(0, 0, 0);
        x.junction(9, 0, 0);
        return x;
    }

    private static void newObject() {
        check.promise(1, "a new object");
        RunSayer x = new RunSayer();
        for (int what = 0; what <= 13; what++) {
            due("count(" + what + ")", x.count(what), 0);
        }
        due("leg(0)", x.leg(0), RunSayer.NONE);
        due("cost(0)", x.cost(0), 0);
        due("cost(1)", x.cost(1), 0);
        due("planned(0)", x.planned(0), RunSayer.NONE);
        due("read(3, 0)", x.read(3, 0), 0);
        due("cell(3, 0, 0)", x.cell(3, 0, 0), -11);
        RunSayer other = new RunSayer();
        other.junction(1, 1, 0);
        due("count(0) of another object", x.count(0), 0);
    }

    private static void junction() {
        check.promise(2, "junction");
        RunSayer x = new RunSayer();
        int[][] bad = {{-1, 0, 0}, {100, 0, 0}, {0, -1, 0}, {0, 100, 0}, {0, 0, -1}, {0, 0, 2},
            {Integer.MIN_VALUE, 0, 0}, {0, Integer.MAX_VALUE, 0}};
        for (int[] b : bad) {
            due("a bad junction", x.junction(b[0], b[1], b[2]), RunSayer.BAD);
        }
        due("junction(0, 99, 1)", x.junction(0, 99, 1), 0);
        due("junction(99, 0, 0)", x.junction(99, 0, 0), 1);
        due("the same place", x.junction(0, 99, 0), RunSayer.STATE);
        due("the same place, no ring", x.junction(0, 99, 2), RunSayer.BAD);
        for (int i = 2; i < 24; i++) {
            due("junction " + i, x.junction(i, i, 0), i);
        }
        due("a 25th at a new place", x.junction(50, 50, 0), RunSayer.FULL);
        due("a 25th at an old place", x.junction(5, 5, 0), RunSayer.STATE);
        due("a 25th that is bad", x.junction(5, 5, 9), RunSayer.BAD);
        due("count(0)", x.count(0), 24);
    }

    private static void ring() {
        check.promise(3, "ring");
        RunSayer x = new RunSayer();
        due("ring(0, 0)", x.ring(0, 0), RunSayer.NONE);
        x.junction(0, 0, 1);
        due("it was a ring", x.ring(0, 0), 1);
        due("it was none", x.ring(0, 0), 0);
        due("it was none", x.ring(0, 1), 0);
        due("it was one", x.ring(0, 1), 1);
        due("ring(0, 2)", x.ring(0, 2), RunSayer.BAD);
        due("ring(0, -1)", x.ring(0, -1), RunSayer.BAD);
        due("ring(1, 2)", x.ring(1, 2), RunSayer.NONE);
        due("ring(-1, 0)", x.ring(-1, 0), RunSayer.NONE);
        due("it is still one", x.ring(0, 0), 1);
    }

    private static void way() {
        check.promise(4, "way");
        RunSayer x = twoJunctions();
        due("no a", x.way(0, 2, 1, 5, 0), RunSayer.NONE);
        due("no b", x.way(0, 0, 2, 5, 0), RunSayer.NONE);
        due("a below 0", x.way(0, -1, 1, 5, 0), RunSayer.NONE);
        due("b below 0", x.way(0, 0, -1, 5, 0), RunSayer.NONE);
        due("no a, a bad kind", x.way(9, 2, 1, 5, 0), RunSayer.NONE);
        int[][] bad = {{-1, 0, 1, 5, 0}, {6, 0, 1, 5, 0}, {0, 1, 1, 5, 0}, {0, 0, 1, 1, 0}, {0, 0, 1, 1000, 0},
            {0, 0, 1, 5, -1}, {0, 0, 1, 5, 2}, {0, 0, 1, Integer.MIN_VALUE, 0}};
        for (int[] b : bad) {
            due("a bad way", x.way(b[0], b[1], b[2], b[3], b[4]), RunSayer.BAD);
        }
        due("count(1)", x.count(1), 0);
        for (int w = 0; w < 40; w++) {
            due("way " + w, x.way(w % 6, w % 2, 1 - w % 2, w % 2 == 0 ? 2 : 999, w % 2), w);
        }
        due("a 41st", x.way(0, 0, 1, 5, 0), RunSayer.FULL);
        due("a 41st that is bad", x.way(0, 0, 0, 5, 0), RunSayer.BAD);
        due("a 41st from nowhere", x.way(0, 5, 0, 5, 0), RunSayer.NONE);
        due("count(1)", x.count(1), 40);
        due("the 40th way's feet", x.about(39, 3, 0), 999);
        due("the last leg can be asked for", x.drivable(79, 0, 12, 0), 0);
        due("there is no leg 80", x.drivable(80, 0, 12, 0), RunSayer.NONE);
    }

    private static void door() {
        check.promise(5, "door");
        RunSayer x = twoJunctions();
        due("no way", x.door(0, 1, 0), RunSayer.NONE);
        x.way(0, 0, 1, 9, 0);
        due("no way, bad feet", x.door(1, 0, 0), RunSayer.NONE);
        due("way -1", x.door(-1, 1, 0), RunSayer.NONE);
        due("0 feet", x.door(0, 0, 0), RunSayer.BAD);
        due("all its feet", x.door(0, 9, 0), RunSayer.BAD);
        due("side 2", x.door(0, 1, 2), RunSayer.BAD);
        due("side -1", x.door(0, 1, -1), RunSayer.BAD);
        due("door(0, 1, 0)", x.door(0, 1, 0), 0);
        due("door(0, 8, 1)", x.door(0, 8, 1), 1);
        due("once more at the same place", x.door(0, 8, 1), 2);
        for (int d = 3; d < 8; d++) {
            due("door " + d, x.door(0, d, 0), d);
        }
        due("a ninth", x.door(0, 1, 0), RunSayer.FULL);
        due("a ninth that is bad", x.door(0, 9, 0), RunSayer.BAD);
        due("count(2)", x.count(2), 8);
    }

    private static void about() {
        check.promise(6, "about");
        RunSayer x = twoJunctions();
        x.junction(0, 9, 0);
        for (int kind = 0; kind < 6; kind++) {
            x.way(kind, 1, 2, 109, kind % 2);
        }
        due("no way", x.about(6, 0, 0), RunSayer.NONE);
        due("no way, what is bad", x.about(-1, 7, 0), RunSayer.NONE);
        due("what 7", x.about(0, 7, 0), RunSayer.BAD);
        due("what -1", x.about(0, -1, 0), RunSayer.BAD);
        for (int what = 0; what < 7; what++) {
            due("hour 24", x.about(0, what, 24), RunSayer.BAD);
            due("hour -1", x.about(0, what, -1), RunSayer.BAD);
        }
        for (int kind = 0; kind < 6; kind++) {
            due("kind", x.about(kind, 0, 0), kind);
            due("a", x.about(kind, 1, 23), 1);
            due("b", x.about(kind, 2, 12), 2);
            due("feet", x.about(kind, 3, 12), 109);
            due("one", x.about(kind, 4, 12), kind % 2);
        }
        for (int hour = 0; hour < 24; hour++) {
            // 109 and a tenth of it, cut: 119
            boolean day = hour >= 8 && hour <= 16, rush = hour >= 7 && hour <= 9;
            int[] prices = {109, 129, 119, day ? 139 : 129, rush ? 238 : 119, rush ? 338 : 219};
            for (int kind = 0; kind < 6; kind++) {
                due("price of kind " + kind + " in hour " + hour, x.about(kind, 5, hour), prices[kind]);
                boolean open = !(kind == 3 && (hour < 5 || hour > 21)) && !(kind == 5 && hour == 3);
                due("kind " + kind + " open in hour " + hour, x.about(kind, 6, hour), open ? 1 : 0);
            }
        }
    }

    private static void taken() {
        check.promise(7, "taken");
        RunSayer x = new RunSayer();
        x.junction(7, 1, 0);
        x.junction(8, 2, 0);
        for (int kind = 0; kind < 6; kind++) {
            x.way(kind, 0, 1, 50 + kind, 0);
        }
        x.door(0, 33, 1);
        x.junction(9, 3, 0);
        due("sort 9", x.taken(0, 9), RunSayer.BAD);
        due("sort -1", x.taken(0, -1), RunSayer.BAD);
        due("sort 9 of nothing", x.taken(99, 9), RunSayer.BAD);
        due("none of these counts", x.count(12), 0);
        due("no such thing", x.taken(10, 8), -11);
        due("no such thing", x.taken(-1, 0), -11);
        due("both count", x.count(12), 2);
        boolean[][] is = {{true}, {true, true}, {true, false, true}, {true, true, false, true},
            {true, false, true, false, true}, {true, false, true, false, true, true}};
        for (int kind = 0; kind < 6; kind++) {
            for (int sort = 0; sort < 6; sort++) {
                boolean one = sort < is[kind].length && is[kind][sort];
                due("kind " + kind + " taken for " + sort, x.taken(2 + kind, sort), one ? 50 + kind : -13);
            }
            due("a way taken for a junction", x.taken(2 + kind, 6), -13);
            due("a way taken for a door", x.taken(2 + kind, 7), -13);
            due("a way taken for anything", x.taken(2 + kind, 8), 1);
        }
        int[] others = {0, 1, 8, 9}, xs = {7, 8, -13, 9}, feet = {-13, -13, 33, -13}, sorts = {0, 0, 2, 0};
        for (int i = 0; i < 4; i++) {
            for (int sort = 0; sort < 6; sort++) {
                due("no way taken for one", x.taken(others[i], sort), -13);
            }
            due("taken for a junction", x.taken(others[i], 6), xs[i]);
            due("taken for a door", x.taken(others[i], 7), feet[i]);
            due("taken for anything", x.taken(others[i], 8), sorts[i]);
        }
        due("count(12)", x.count(12), 2 + 54 + 36);
        due("count(13)", x.count(13), 10);
    }

    private static void takenFromFullCity() {
        RunSayer x = new RunSayer();
        for (int j = 0; j < 24; j++) {
            x.junction(j, 0, 0);
        }
        for (int w = 0; w < 40; w++) {
            x.way(0, 0, 1, 10 + w, 0);
        }
        for (int d = 0; d < 8; d++) {
            x.door(39, 1 + d, 0);
        }
        due("count(13)", x.count(13), 72);
        due("the last junction", x.taken(23, 6), 23);
        due("the first way", x.taken(24, 0), 10);
        due("the last way", x.taken(63, 0), 49);
        due("the first door", x.taken(64, 7), 1);
        due("the last door", x.taken(71, 7), 8);
        due("nothing", x.taken(72, 8), -11);
    }

    private static void name() {
        check.promise(8, "name");
        RunSayer x = twoJunctions();
        x.way(0, 0, 1, 9, 0);
        due("no way", x.name(1, Cities.word("a")), RunSayer.NONE);
        due("no way, no word", x.name(-1, 0), RunSayer.NONE);
        long[] bad = {0, 1, Cities.word("A"), Cities.word("a`"), Cities.word("{a"), Cities.word("a") << 8,
            Cities.word("a b"), Cities.word("aaaaaaa\u00e1"), Cities.word("\u00e1aaaaaaa"), -1,
            Cities.word("a\0a"), Cities.word("a") << 56, Long.MIN_VALUE};
        for (long b : bad) {
            due("no word: " + b, x.name(0, b), RunSayer.BAD);
        }
        due("a", x.name(0, Cities.word("a")), 0);
        due("azazazaz", x.name(0, Cities.word("azazazaz")), 1);
        due("a once more", x.name(0, Cities.word("a")), 2);
        for (int i = 3; i < 60; i++) {
            due("name " + i, x.name(0, Cities.word("n")), i);
        }
        due("a 61st", x.name(0, Cities.word("a")), RunSayer.FULL);
        due("a 61st that is no word", x.name(0, 0), RunSayer.BAD);
        due("no name of all", x.answers(0, Cities.word("none"), 0), 0);
        due("count(4)", x.count(4), 60);
    }

    private static void answers() {
        check.promise(9, "answers");
        RunSayer x = twoJunctions();
        x.way(0, 0, 1, 9, 0);
        x.way(0, 0, 1, 9, 0);
        x.name(0, Cities.word("old"));
        x.pass(5);
        x.name(0, Cities.word("new"));
        x.pass(1);
        due("no way", x.answers(2, Cities.word("old"), 0), RunSayer.NONE);
        due("no way, no word", x.answers(2, 0, 0), RunSayer.NONE);
        due("no word", x.answers(0, 0, 0), RunSayer.BAD);
        due("no word", x.answers(0, Cities.word("Old"), 0), RunSayer.BAD);
        due("known tomorrow", x.answers(0, Cities.word("old"), 7), RunSayer.BAD);
        due("known -1", x.answers(0, Cities.word("old"), -1), RunSayer.BAD);
        due("old on day 0", x.answers(0, Cities.word("old"), 0), 1);
        due("old today: it answers to all it ever had", x.answers(0, Cities.word("old"), 6), 1);
        due("new on day 4", x.answers(0, Cities.word("new"), 4), 0);
        due("new on day 5", x.answers(0, Cities.word("new"), 5), 1);
        due("new on day 6", x.answers(0, Cities.word("new"), 6), 1);
        due("ne", x.answers(0, Cities.word("ne"), 6), 0);
        due("the other way", x.answers(1, Cities.word("old"), 6), 0);
    }

    private static void shut() {
        check.promise(10, "shut");
        RunSayer x = twoJunctions();
        x.way(0, 0, 1, 9, 0);
        due("no way", x.shut(1, 0, 1), RunSayer.NONE);
        due("no way, bad days", x.shut(-1, 1, 1), RunSayer.NONE);
        due("from -1", x.shut(0, -1, 1), RunSayer.BAD);
        due("to 301", x.shut(0, 0, 301), RunSayer.BAD);
        due("none of them", x.shut(0, 5, 5), RunSayer.BAD);
        due("backwards", x.shut(0, 6, 5), RunSayer.BAD);
        due("from 300 on", x.shut(0, 300, 300), RunSayer.BAD);
        due("all days", x.shut(0, 0, 300), 0);
        due("the last day", x.shut(0, 299, 300), 1);
        for (int i = 2; i < 40; i++) {
            due("shut " + i, x.shut(0, 1, 2), i);
        }
        due("a 41st", x.shut(0, 0, 1), RunSayer.FULL);
        due("a 41st that is bad", x.shut(0, 1, 1), RunSayer.BAD);
        x.way(0, 0, 1, 9, 0);
        due("none of all", x.wasShut(1, 1, 0), 0);
        due("count(5)", x.count(5), 40);
    }

    private static void wasShut() {
        check.promise(11, "wasShut");
        RunSayer x = twoJunctions();
        x.way(0, 0, 1, 9, 0);
        x.way(0, 0, 1, 9, 0);
        x.pass(10);
        x.shut(0, 4, 20);
        x.pass(2);
        due("no way", x.wasShut(2, 5, 12), RunSayer.NONE);
        due("no way, a bad day", x.wasShut(-1, -1, 12), RunSayer.NONE);
        due("day -1", x.wasShut(0, -1, 12), RunSayer.BAD);
        due("day 300", x.wasShut(0, 300, 12), RunSayer.BAD);
        due("known -1", x.wasShut(0, 5, -1), RunSayer.BAD);
        due("known tomorrow", x.wasShut(0, 5, 13), RunSayer.BAD);
        due("day 0", x.wasShut(0, 0, 12), 0);
        due("day 3", x.wasShut(0, 3, 12), 0);
        due("day 4", x.wasShut(0, 4, 12), 1);
        due("day 19", x.wasShut(0, 19, 12), 1);
        due("day 20", x.wasShut(0, 20, 12), 0);
        due("day 299", x.wasShut(0, 299, 0), 0);
        due("known the day ahead", x.wasShut(0, 5, 9), 0);
        due("known that day", x.wasShut(0, 5, 10), 1);
        due("the other way", x.wasShut(1, 5, 12), 0);
    }

    private static void ban() {
        check.promise(12, "ban");
        RunSayer x = Cities.square();
        due("no first leg", x.ban(8, 2, 1, 1), RunSayer.NONE);
        due("no second leg", x.ban(0, 8, 1, 1), RunSayer.NONE);
        due("leg -1", x.ban(-1, 2, 1, 1), RunSayer.NONE);
        due("leg -1, bad hours", x.ban(0, -1, 0, 1), RunSayer.NONE);
        int[][] bad = {{0, 1}, {100, 1}, {101, 1}, {505, 1}, {506, 0}, {506, 128}, {506, -1}, {25, 1}, {2324 + 1, 1},
            {2424, 1}, {2400, 1}, {2425, 1}, {-1, 1}, {-99, 1}, {-100, 1}, {600, 1}, {1099, 1}, {Integer.MIN_VALUE, 1}};
        for (int[] b : bad) {
            due("bad hours or days " + b[0] + ", " + b[1], x.ban(0, 2, b[0], b[1]), RunSayer.BAD);
        }
        due("bad, and it does not follow", x.ban(0, 4, 0, 1), RunSayer.BAD);
        due("it does not follow", x.ban(0, 4, 1, 1), RunSayer.STATE);
        due("the same way", x.ban(0, 1, 1, 1), RunSayer.STATE);
        due("hour 0", x.ban(0, 2, 1, 127), 0);
        due("all hours", x.ban(0, 2, 24, 1), 1);
        due("hour 23", x.ban(0, 2, 2324, 64), 2);
        for (int i = 3; i < 40; i++) {
            due("ban " + i, x.ban(0, 2, 1, 1), i);
        }
        due("a 41st", x.ban(0, 2, 1, 1), RunSayer.FULL);
        due("a 41st that does not follow", x.ban(0, 4, 1, 1), RunSayer.STATE);
        due("count(6)", x.count(6), 40);
        due("with all bans", x.best(0, 1, 1, 1), 3);
        banned();
    }

    /** Hours, weekdays and the day on which it was told, by what is the best run then. */
    private static void banned() {
        RunSayer x = Cities.street(10, 10);
        x.pass(9);
        // day 9 is the third of its week: bit 2
        x.ban(0, 2, 608, 4);
        x.pass(21);
        due("hour 5", x.bestOn(0, 1, 9030, 5, 0), 2);
        due("hour 6", x.bestOn(0, 1, 9030, 6, 0), 0);
        due("hour 7", x.bestOn(0, 1, 9030, 7, 0), 0);
        due("hour 8", x.bestOn(0, 1, 9030, 8, 0), 2);
        due("a week ahead of it", x.bestOn(0, 1, 2030, 6, 0), 2);
        due("the next day", x.bestOn(0, 1, 10030, 6, 0), 2);
        due("the day ahead", x.bestOn(0, 1, 8030, 6, 0), 2);
        due("the next week", x.bestOn(0, 1, 16030, 6, 0), 0);
        due("whatever is known", x.bestOn(0, 1, 9000, 6, 0), 0);
        due("today", x.best(0, 1, 6, 0), 0);
        due("the other way round", x.best(1, 0, 6, 0), 2);
    }

    private static void pass() {
        check.promise(13, "pass");
        RunSayer x = new RunSayer();
        due("pass(0)", x.pass(0), RunSayer.BAD);
        due("pass(-1)", x.pass(-1), RunSayer.BAD);
        due("pass(101)", x.pass(101), RunSayer.BAD);
        due("pass(1)", x.pass(1), 1);
        due("pass(100)", x.pass(100), 101);
        due("pass(100)", x.pass(100), 201);
        due("pass(99)", x.pass(99), RunSayer.FULL);
        due("pass(101) at the end", x.pass(101), RunSayer.BAD);
        due("count(3)", x.count(3), 201);
        due("pass(98)", x.pass(98), 299);
        due("pass(1) at the end", x.pass(1), RunSayer.FULL);
    }

    private static void turn() {
        check.promise(14, "turn");
        RunSayer x = new RunSayer();
        x.junction(50, 50, 0);
        x.junction(50, 10, 0);
        x.junction(50, 90, 0);
        x.junction(10, 50, 0);
        x.junction(90, 50, 0);
        x.junction(50, 20, 0);
        x.junction(51, 99, 0);
        x.way(0, 1, 0, 9, 0);
        x.way(0, 0, 2, 9, 1);
        x.way(0, 3, 0, 9, 1);
        x.way(0, 0, 4, 9, 0);
        x.way(0, 0, 5, 9, 0);
        x.way(0, 0, 6, 9, 0);
        due("no leg", x.turn(12, 2), RunSayer.NONE);
        due("no leg", x.turn(0, 12), RunSayer.NONE);
        due("no leg", x.turn(-1, 2), RunSayer.NONE);
        due("no leg", x.turn(0, -1), RunSayer.NONE);
        due("elsewhere", x.turn(1, 2), RunSayer.STATE);
        due("back on the same way", x.turn(0, 1), RunSayer.STATE);
        due("against it", x.turn(0, 3), RunSayer.STATE);
        due("north, then on north", x.turn(0, 2), 2);
        due("north, then west, against one", x.turn(0, 5), 0);
        due("north, then east", x.turn(0, 6), 1);
        due("north, then back south", x.turn(0, 8), 0);
        due("north, then nearly north", x.turn(0, 10), 1);
        due("from nearly north, back south", x.turn(11, 1), 0);
        due("east, then on east", x.turn(4, 6), 2);
        due("east, then north", x.turn(4, 2), 0);
        due("east, then south", x.turn(4, 1), 1);
        due("west, then south", x.turn(7, 1), 0);
        due("south, then back north", x.turn(9, 2), 2);
        x.ring(0, 1);
        due("a ring now", x.turn(0, 2), 5);
        x.ring(0, 0);
        due("none again", x.turn(0, 2), 2);
    }

    /** Eight ways in a star, so that each look from the ring stands once, and two look alike. */
    private static void turnInRing() {
        RunSayer x = new RunSayer();
        x.junction(50, 50, 1);
        int[][] looks = {{0, 1}, {1, 1}, {1, 0}, {1, -1}, {0, -1}, {-1, -1}, {-1, 0}, {-1, 1}};
        for (int i = 0; i < 8; i++) {
            x.junction(50 + 10 * looks[i][0], 50 + 10 * looks[i][1], 0);
            x.way(0, 0, i + 1, 9, 0);
        }
        // way i looks i eighths of a turn clockwise from north; leg 2 i leads out, leg 2 i + 1 in
        for (int in = 0; in < 8; in++) {
            for (int on = 1; on < 8; on++) {
                due("from " + in + " the exit " + on, x.turn(2 * in + 1, 2 * ((in + on) % 8)), 2 + on);
            }
        }
        x.junction(50, 70, 0);
        x.way(0, 9, 0, 9, 1);
        due("a way that looks as the one that it came from is the first exit", x.turn(1, 17), 3);
        due("then the next one", x.turn(1, 2), 4);
        due("the last one", x.turn(1, 14), 10);
        due("of two that look alike the lesser leg", x.turn(9, 0), 6);
        due("of two that look alike the greater leg", x.turn(9, 17), 7);
        due("behind both", x.turn(9, 2), 8);
        x.way(0, 0, 1, 9, 0);
        due("two ways to one junction: the other one first", x.turn(1, 18), 4);
        due("alike in look, the lesser leg", x.turn(1, 17), 3);
        due("alike in look, three of them", x.turn(19, 0), 3);
    }

    private static void drivable() {
        check.promise(15, "drivable");
        RunSayer x = twoJunctions();
        x.way(3, 0, 1, 9, 1);
        x.way(5, 0, 1, 9, 0);
        x.pass(4);
        x.shut(1, 2, 6);
        due("no leg", x.drivable(4, 0, 0, 0), RunSayer.NONE);
        due("no leg, a bad day", x.drivable(-1, -1, 0, 0), RunSayer.NONE);
        due("day 300", x.drivable(0, 300, 0, 0), RunSayer.BAD);
        due("day -1", x.drivable(0, -1, 0, 0), RunSayer.BAD);
        due("hour 24", x.drivable(0, 0, 24, 0), RunSayer.BAD);
        due("hour -1", x.drivable(0, 0, -1, 0), RunSayer.BAD);
        due("known tomorrow", x.drivable(0, 0, 0, 5), RunSayer.BAD);
        due("known -1", x.drivable(0, 0, 0, -1), RunSayer.BAD);
        due("an alley in hour 5", x.drivable(0, 299, 5, 4), 1);
        due("an alley in hour 4", x.drivable(0, 0, 4, 0), 0);
        due("against one", x.drivable(1, 0, 5, 0), 0);
        due("a toll in hour 3", x.drivable(2, 0, 3, 0), 0);
        due("day 1", x.drivable(2, 1, 5, 4), 1);
        due("day 2, shut", x.drivable(2, 2, 5, 4), 0);
        due("day 2, the other leg", x.drivable(3, 2, 5, 4), 0);
        due("day 2, as was known ahead", x.drivable(3, 2, 5, 3), 1);
        due("day 6", x.drivable(3, 6, 5, 4), 1);
    }
}
