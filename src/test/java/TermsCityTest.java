/** Each sentence of the document's term 1, THE CITY, that names a boundary: both sides of it. */
final class TermsCityTest {
    private static final Check check = new Check("TermsCityTest");
    private static final int NONE = -1, BAD = -2, STATE = -3, FULL = -4;

    public static void main(String[] args) {
        junctions();
        ways();
        prices();
        openHours();
        whoIsALane();
        legs();
        follows();
        turned();
        inRing();
        inRingToAndFro();
        doors();
        sides();
        today();
        words();
        names();
        shut();
        bans();
        weekdays();
        drivable();
        check.end();
    }

    private static void due(String call, long got, long want) {
        check.due(call, got, want);
    }

    /** Junction 0 at 10, 10, junction 1 at 20, 10; ways between them as they come. */
    private static RunSayer two() {
        RunSayer x = new RunSayer();
        x.junction(10, 10, 0);
        x.junction(20, 10, 0);
        return x;
    }

    private static void junctions() {
        check.sentence("JUNCTIONS are numbered from 0 on, 24 at most, each at x, y (0 .. 99 each; no two at one place), a RING or not");
        RunSayer x = new RunSayer();
        int[] edges = {0, 99};
        int next = 0;
        for (int ax : edges) {
            for (int ay : edges) {
                due("junction at " + ax + ", " + ay, x.junction(ax, ay, next % 2), next++);
                due("there once more", x.junction(ax, ay, next % 2), STATE);
            }
        }
        due("the same x", x.junction(0, 1, 0), 4);
        due("the same y", x.junction(1, 0, 0), 5);
        due("x and y the other way round", x.junction(1, 99, 0), 6);
        int[] beyond = {-1, 100};
        for (int v : beyond) {
            due("x " + v, x.junction(v, 50, 0), BAD);
            due("y " + v, x.junction(50, v, 0), BAD);
        }
        due("ring -1", x.junction(50, 50, -1), BAD);
        due("ring 2", x.junction(50, 50, 2), BAD);
        for (int j = 7; j < 24; j++) {
            due("junction " + j, x.junction(50, j, 0), j);
        }
        due("a 25th", x.junction(51, 0, 0), FULL);
        due("from the 24th", x.way(0, 23, 0, 5, 0), 0);
        due("from a 25th", x.way(0, 24, 0, 5, 0), NONE);
        due("the first one is none", x.ring(0, 0), 0);
        due("the second one is a ring", x.ring(1, 0), 1);
    }

    private static void ways() {
        check.sentence("WAYS are numbered from 0 on, 40 at most, from a JUNCTION a to another one b, of 2 .. 999 FEET, ONE or not, of a KIND");
        RunSayer x = two();
        due("from 0 to 0", x.way(0, 0, 0, 5, 0), BAD);
        due("from 0 to 1", x.way(0, 0, 1, 5, 0), 0);
        due("from 1 to 0", x.way(0, 1, 0, 5, 0), 1);
        due("from 0 to 1 once more", x.way(0, 0, 1, 5, 0), 2);
        due("1 foot", x.way(0, 0, 1, 1, 0), BAD);
        due("2 feet", x.way(0, 0, 1, 2, 0), 3);
        due("999 feet", x.way(0, 0, 1, 999, 0), 4);
        due("1000 feet", x.way(0, 0, 1, 1000, 0), BAD);
        due("one -1", x.way(0, 0, 1, 5, -1), BAD);
        due("one 2", x.way(0, 0, 1, 5, 2), BAD);
        due("one 1", x.way(0, 0, 1, 5, 1), 5);
        due("kind -1", x.way(-1, 0, 1, 5, 0), BAD);
        due("kind 6", x.way(6, 0, 1, 5, 0), BAD);
        for (int w = 6; w < 40; w++) {
            due("way " + w, x.way(w % 6, 0, 1, 5, 0), w);
        }
        due("a 41st", x.way(0, 0, 1, 5, 0), FULL);
        due("the 40th", x.about(39, 0, 0), 39 % 6);
        due("a 41st", x.about(40, 0, 0), NONE);
    }

    private static void prices() {
        check.sentence("with a PRICE in an hour (0 .. 23)");
        int[] feet = {2, 9, 10, 19, 20, 99, 100, 998, 999}, tenths = {0, 0, 1, 1, 2, 9, 10, 99, 99};
        for (int i = 0; i < feet.length; i++) {
            RunSayer x = two();
            for (int kind = 0; kind < 6; kind++) {
                x.way(kind, 0, 1, feet[i], 0);
            }
            int bridge = feet[i] + tenths[i];
            due("a street", x.about(0, 5, 8), feet[i]);
            due("a lane: 20 more", x.about(1, 5, 8), feet[i] + 20);
            due("a bridge: a tenth, cut, more", x.about(2, 5, 8), bridge);
            int[] hours = {0, 7, 8, 16, 17, 23}, more = {20, 20, 30, 30, 20, 20};
            for (int h = 0; h < hours.length; h++) {
                due("an alley in hour " + hours[h], x.about(3, 5, hours[h]), feet[i] + more[h]);
            }
            int[] rush = {0, 6, 7, 9, 10, 23}, times = {1, 1, 2, 2, 1, 1};
            for (int h = 0; h < rush.length; h++) {
                due("a tunnel in hour " + rush[h], x.about(4, 5, rush[h]), times[h] * bridge);
                due("a toll in hour " + rush[h], x.about(5, 5, rush[h]), times[h] * bridge + 100);
            }
            due("hour -1", x.about(0, 5, -1), BAD);
            due("hour 24", x.about(0, 5, 24), BAD);
        }
    }

    private static void openHours() {
        check.sentence("3 ALLEY: OPEN just in hours 5 .. 21. 5 TOLL: not OPEN in hour 3. All others are OPEN in each hour");
        RunSayer x = two();
        for (int kind = 0; kind < 6; kind++) {
            x.way(kind, 0, 1, 5, 0);
        }
        int[] hours = {0, 4, 5, 21, 22, 23}, open = {0, 0, 1, 1, 0, 0};
        for (int h = 0; h < hours.length; h++) {
            due("an alley in hour " + hours[h], x.about(3, 6, hours[h]), open[h]);
        }
        due("a toll in hour 2", x.about(5, 6, 2), 1);
        due("a toll in hour 3", x.about(5, 6, 3), 0);
        due("a toll in hour 4", x.about(5, 6, 4), 1);
        int[] others = {0, 1, 2, 4};
        for (int kind : others) {
            for (int hour = 0; hour < 24; hour++) {
                due("kind " + kind + " in hour " + hour, x.about(kind, 6, hour), 1);
            }
        }
    }

    private static void whoIsALane() {
        check.sentence("Who is a LANE is a STREET, too, and so on");
        String[] are = {"0", "01", "02", "013", "024", "0245"};
        for (int kind = 0; kind < 6; kind++) {
            RunSayer x = two();
            x.way(kind, 0, 1, 77, 0);
            for (int sort = 0; sort < 6; sort++) {
                due("kind " + kind + " for " + sort, x.taken(2, sort), are[kind].contains("" + sort) ? 77 : -13);
            }
        }
    }

    private static void legs() {
        check.sentence("A LEG is a WAY in a direction: 2 w from a to b, 2 w + 1 from b to a");
        RunSayer x = two();
        for (int w = 0; w < 40; w++) {
            x.way(0, w % 2, 1 - w % 2, 9, 0);
        }
        x.door(0, 3, 0);
        x.door(0, 6, 0);
        x.door(39, 3, 0);
        x.door(39, 6, 0);
        int[][] asks = {{0, 1, 0}, {1, 0, 1}, {2, 3, 78}, {3, 2, 79}};
        for (int[] ask : asks) {
            due("one leg", x.best(ask[0], ask[1], 0, 1), 1);
            due("up or down", x.leg(0), ask[2]);
        }
        due("leg -1", x.drivable(-1, 0, 0, 0), NONE);
        due("leg 0", x.drivable(0, 0, 0, 0), 1);
        due("leg 79", x.drivable(79, 0, 0, 0), 1);
        due("leg 80", x.drivable(80, 0, 0, 0), NONE);
    }

    private static void follows() {
        check.sentence("Leg f FOLLOWS e, if it begins where e ends and is of another WAY");
        RunSayer x = two();
        x.junction(30, 10, 0);
        x.way(0, 0, 1, 9, 0);
        x.way(0, 0, 1, 9, 1);
        x.way(0, 1, 2, 9, 0);
        // leg 0 ends at junction 1; there legs 1 (its own way), 3 and 4 begin
        int[] from0 = {STATE, STATE, STATE, 0, 2, STATE};
        for (int f = 0; f < 6; f++) {
            due("leg " + f + " behind leg 0", x.turn(0, f), from0[f]);
        }
        int[] from5 = {STATE, 2, STATE, 2, STATE, STATE};
        for (int f = 0; f < 6; f++) {
            due("leg " + f + " behind leg 5", x.turn(5, f), from5[f]);
        }
        due("into the only leg there: its own", x.turn(4, 5), STATE);
    }

    /** East into junction 1, then on to places that are one step off the line, on it, and back. */
    private static RunSayer crossing(int ring) {
        RunSayer x = new RunSayer();
        int[][] places = {{10, 10}, {11, 10}, {16, 11}, {16, 9}, {16, 10}, {6, 10}, {6, 11}, {6, 9}};
        for (int[] p : places) {
            x.junction(p[0], p[1], 0);
        }
        x.ring(1, ring);
        x.way(0, 0, 1, 9, 0);
        for (int j = 2; j < 8; j++) {
            x.way(0, 1, j, 9, 0);
        }
        return x;
    }

    private static void turned() {
        check.sentence("the cross of e and f: below 0 RIGHT (1); 0, and f does not look back: AHEAD (2); else LEFT (0)");
        RunSayer x = crossing(0);
        due("cross 1", x.turn(0, 2), 0);
        due("cross -1", x.turn(0, 4), 1);
        due("cross 0", x.turn(0, 6), 2);
        due("cross 0, it looks back", x.turn(0, 8), 0);
        due("cross 1, it looks back", x.turn(0, 10), 0);
        due("cross -1, it looks back", x.turn(0, 12), 1);
    }

    private static void inRing() {
        check.sentence("In a RING: 3 and how many other legs that FOLLOW e come ahead of it, clockwise from where e came from");
        RunSayer x = crossing(1);
        due("that way itself first of all", x.turn(0, 8), 3);
        due("a step clockwise", x.turn(0, 10), 4);
        due("a step ahead of straight on", x.turn(0, 2), 5);
        due("straight on", x.turn(0, 6), 6);
        due("a step behind straight on", x.turn(0, 4), 7);
        due("a step against the clock is the last one", x.turn(0, 12), 8);
        x.way(0, 1, 4, 9, 0);
        due("of two that look alike the lesser leg first", x.turn(0, 6), 6);
        due("of two that look alike the greater one", x.turn(0, 14), 7);
        due("behind both", x.turn(0, 4), 8);
        x.junction(11, 50, 0);
        x.way(0, 8, 1, 9, 1);
        due("north, against one: it counts, too", x.turn(0, 17), 5);
        due("behind it", x.turn(0, 2), 6);
        x.ring(1, 0);
        due("a ring no more", x.turn(0, 6), 2);
        x.ring(1, 1);
        due("a ring again", x.turn(0, 6), 7);
    }

    private static void inRingToAndFro() {
        RunSayer x = two();
        x.ring(1, 1);
        x.way(0, 0, 1, 9, 0);
        x.way(0, 0, 1, 9, 0);
        due("one leg alone follows", x.turn(0, 3), 3);
        due("one leg alone follows", x.turn(2, 1), 3);
        due("no ring at the other end: it looks back", x.turn(1, 2), 0);
        for (int w = 2; w < 40; w++) {
            x.way(0, 0, 1, 9, 0);
        }
        due("39 look alike: the first of them", x.turn(0, 3), 3);
        due("39 look alike: the last of them", x.turn(0, 79), 41);
        due("from the last one: the last of the others", x.turn(78, 77), 41);
        // one step apart, so that two looks alike are as short as can be
        RunSayer y = new RunSayer();
        y.junction(50, 50, 1);
        y.junction(51, 50, 0);
        y.junction(50, 49, 0);
        y.junction(49, 50, 0);
        y.way(0, 1, 0, 2, 0);
        y.way(0, 0, 2, 2, 0);
        y.way(0, 0, 3, 2, 0);
        y.way(0, 0, 1, 2, 0);
        due("back to where it came from", y.turn(0, 6), 3);
        due("then south", y.turn(0, 2), 4);
        due("then west", y.turn(0, 4), 5);
    }

    private static void doors() {
        check.sentence("DOORS are numbered from 0 on, 8 at most: on a WAY, so many FEET from its a (1 .. FEET less 1), on a SIDE");
        RunSayer x = two();
        x.way(0, 0, 1, 2, 0);
        x.way(0, 0, 1, 999, 0);
        due("0 of 2", x.door(0, 0, 0), BAD);
        due("1 of 2", x.door(0, 1, 0), 0);
        due("2 of 2", x.door(0, 2, 0), BAD);
        due("0 of 999", x.door(1, 0, 0), BAD);
        due("1 of 999", x.door(1, 1, 0), 1);
        due("998 of 999", x.door(1, 998, 1), 2);
        due("999 of 999", x.door(1, 999, 1), BAD);
        due("side -1", x.door(1, 5, -1), BAD);
        due("side 2", x.door(1, 5, 2), BAD);
        for (int d = 3; d < 8; d++) {
            due("door " + d, x.door(1, 500, 1), d);
        }
        due("a ninth", x.door(1, 500, 1), FULL);
        due("from the eighth", x.best(7, 0, 0, 0), 2);
        due("from a ninth", x.best(8, 0, 0, 0), NONE);
    }

    private static void sides() {
        check.sentence("on a SIDE: 0 the left one as one goes from a to b, 1 the other one");
        for (int side = 0; side < 2; side++) {
            RunSayer x = two();
            x.way(0, 0, 1, 9, 0);
            x.door(0, 3, side);
            x.door(0, 6, side);
            boolean left = side == 0;
            due("up, left", Cities.say(x, 0, 1, 0, "leave up set left"), left ? 0 : -1007);
            due("up, right", Cities.say(x, 0, 1, 0, "leave up set right"), left ? -1007 : 0);
            due("down, left", Cities.say(x, 1, 0, 0, "leave down set left"), left ? -1007 : 1);
            due("down, right", Cities.say(x, 1, 0, 0, "leave down set right"), left ? 1 : -1007);
        }
    }

    private static void today() {
        check.sentence("DAYS: TODAY is 0 at first, 299 at most");
        RunSayer x = new RunSayer();
        due("today", x.count(3), 0);
        due("0 days", x.pass(0), BAD);
        due("101 days", x.pass(101), BAD);
        due("100 days", x.pass(100), 100);
        due("100 days", x.pass(100), 200);
        due("100 days: beyond 299", x.pass(100), FULL);
        due("99 days: day 299", x.pass(99), 299);
        due("one day more", x.pass(1), FULL);
        due("today", x.count(3), 299);
    }

    private static void words() {
        check.sentence("WORDS (1 to 8 letters a .. z, told as bytes, the highest first)");
        RunSayer x = two();
        x.way(0, 0, 1, 9, 0);
        due("no letter", x.name(0, 0), BAD);
        for (int letters = 1; letters <= 8; letters++) {
            for (int at = 0; at < letters; at++) {
                long word = Cities.word("m".repeat(letters)), clear = ~(255L << (8 * at));
                int[] in = {'a', 'z'}, out = {'a' - 1, 'z' + 1, 0, ' ', 255, 'A', '1'};
                for (int sign : in) {
                    due("a word", x.answers(0, word & clear | (long) sign << (8 * at), 0), 0);
                }
                for (int sign : out) {
                    // a 0 ahead of all others leaves a shorter word
                    boolean shorter = sign == 0 && at == letters - 1 && letters > 1;
                    due("no word", x.answers(0, word & clear | (long) sign << (8 * at), 0), shorter ? 0 : BAD);
                }
            }
        }
        due("name", x.name(0, Cities.word("ab")), 0);
        due("it is told so", x.answers(0, 'a' * 256 + 'b', 0), 1);
        due("not so", x.answers(0, 'b' * 256 + 'a', 0), 0);
        due("not the beginning", x.answers(0, 'a', 0), 0);
        due("not the end", x.answers(0, 'b', 0), 0);
        due("not more", x.answers(0, Cities.word("abb"), 0), 0);
    }

    private static void names() {
        check.sentence("NAMES that a WAY has from the day on on which they are told; it answers to all it ever had. 60 at most");
        RunSayer x = two();
        x.way(0, 0, 1, 9, 0);
        x.way(0, 0, 1, 9, 0);
        x.pass(3);
        due("name 0", x.name(0, 'a'), 0);
        x.pass(1);
        due("name 1", x.name(0, 'b'), 1);
        due("the day ahead of a", x.answers(0, 'a', 2), 0);
        due("the day of a", x.answers(0, 'a', 3), 1);
        due("b on the day of a", x.answers(0, 'b', 3), 0);
        due("b today", x.answers(0, 'b', 4), 1);
        due("a today", x.answers(0, 'a', 4), 1);
        due("tomorrow", x.answers(0, 'a', 5), BAD);
        due("the other way", x.answers(1, 'a', 4), 0);
        due("two ways of one name", x.name(1, 'a'), 2);
        due("the other way", x.answers(1, 'a', 4), 1);
        for (int n = 3; n < 59; n++) {
            due("name " + n, x.name(1, 'c'), n);
        }
        due("the 60th", x.name(1, 'd'), 59);
        due("a 61st", x.name(1, 'e'), FULL);
        due("the 60th stands", x.answers(1, 'd', 4), 1);
        due("the 61st does not", x.answers(1, 'e', 4), 0);
    }

    private static void shut() {
        check.sentence("SHUT: a WAY from a day on ahead of another one, told on a day (40 at most)");
        RunSayer x = two();
        x.way(0, 0, 1, 9, 0);
        x.way(0, 0, 1, 9, 0);
        x.pass(6);
        due("from -1", x.shut(0, -1, 1), BAD);
        due("to 301", x.shut(0, 299, 301), BAD);
        due("from 7 to 7", x.shut(0, 7, 7), BAD);
        due("from 8 to 7", x.shut(0, 8, 7), BAD);
        due("from 300 to 300", x.shut(0, 300, 300), BAD);
        due("from 7 to 8", x.shut(0, 7, 8), 0);
        x.pass(1);
        due("from 299 to 300", x.shut(0, 299, 300), 1);
        due("from 0 to 1", x.shut(0, 0, 1), 2);
        int[] days = {0, 1, 6, 7, 8, 298, 299}, shut = {1, 0, 0, 1, 0, 0, 1}, by6 = {0, 0, 0, 1, 0, 0, 0};
        for (int i = 0; i < days.length; i++) {
            due("day " + days[i], x.wasShut(0, days[i], 7), shut[i]);
            due("day " + days[i] + " as was known on day 6", x.wasShut(0, days[i], 6), by6[i]);
            due("day " + days[i] + " as was known on day 5", x.wasShut(0, days[i], 5), 0);
            due("day " + days[i] + " of the other way", x.wasShut(1, days[i], 7), 0);
        }
        due("from 0 to 300", x.shut(1, 0, 300), 3);
        due("its first day", x.wasShut(1, 0, 7), 1);
        due("its last day", x.wasShut(1, 299, 7), 1);
        due("day -1", x.wasShut(1, -1, 7), BAD);
        due("day 300", x.wasShut(1, 300, 7), BAD);
        for (int s = 4; s < 40; s++) {
            due("shut " + s, x.shut(0, 100, 101), s);
        }
        due("a 41st", x.shut(0, 200, 201), FULL);
        due("it is not shut", x.wasShut(0, 200, 7), 0);
    }

    /** The two legs of a street, from its one door to the other one: the turn from leg 0 into leg 2. */
    private static RunSayer banned(int today, int hours, int days) {
        RunSayer x = Cities.street(10, 10);
        for (int left = today; left > 0; left -= 100) {
            x.pass(Math.min(left, 100));
        }
        due("ban", x.ban(0, 2, hours, days), 0);
        return x;
    }

    private static void bans() {
        check.sentence("BANS: a turn from leg e into f that FOLLOWS it, in hours from one on ahead of another one");
        int[][] hours = {{1, 0, 1}, {102, 1, 2}, {1216, 12, 16}, {2223, 22, 23}, {2324, 23, 24}, {24, 0, 24}};
        for (int[] h : hours) {
            RunSayer x = banned(0, h[0], 127);
            for (int hour = 0; hour < 24; hour++) {
                due("hours " + h[0] + ", hour " + hour, x.best(0, 1, hour, 0), hour >= h[1] && hour < h[2] ? 0 : 2);
                due("the other turns", x.best(1, 0, hour, 0), 2);
            }
        }
        RunSayer x = Cities.street(10, 10, 10);
        due("it does not follow", x.ban(0, 4, 24, 127), STATE);
        due("it is of the same way", x.ban(0, 1, 24, 127), STATE);
        int[] bad = {0, 100, 2323, 2424, 2400, 25, 2325, 605, 606, -1, -100};
        for (int b : bad) {
            due("hours " + b, x.ban(0, 2, b, 127), BAD);
        }
        for (int b = 0; b < 40; b++) {
            due("ban " + b, x.ban(0, 2, 607, 127), b);
        }
        due("a 41st", x.ban(2, 4, 607, 127), FULL);
        due("leg 2 into leg 4 is not banned", x.best(0, 1, 6, 0), 0);
        due("leg 2 into leg 4 is not banned", x.best(0, 1, 7, 0), 3);
    }

    private static void weekdays() {
        check.sentence("on weekdays (bits, day modulo 7), from the day on on which it is told (40 at most; whatever is KNOWN)");
        for (int bit = 0; bit < 7; bit++) {
            RunSayer x = banned(0, 24, 1 << bit), y = banned(0, 24, 127 - (1 << bit));
            for (int day = 0; day < 15; day++) {
                boolean on = day % 7 == bit;
                due("bit " + bit + ", day " + day, x.bestOn(0, 1, 1000 * day, 0, 0), on ? 0 : 2);
                due("all bits but " + bit + ", day " + day, y.bestOn(0, 1, 1000 * day, 0, 0), on ? 2 : 0);
            }
            due("day 299", x.bestOn(0, 1, 299_000, 0, 0), 299 % 7 == bit ? 0 : 2);
        }
        RunSayer x = Cities.street(10, 10);
        due("no days", x.ban(0, 2, 24, 0), BAD);
        due("days 128", x.ban(0, 2, 24, 128), BAD);
        RunSayer z = banned(205, 24, 127);
        int[] days = {0, 203, 204, 205, 206, 299};
        for (int day : days) {
            int on = day >= 205 ? 0 : 2;
            due("told on day 205, day " + day, z.bestOn(0, 1, 1000 * day, 0, 0), on);
            due("as is known on day 205", z.bestOn(0, 1, 1000 * day + 205, 0, 0), on);
        }
        due("today", z.best(0, 1, 0, 0), 0);
    }

    private static void drivable() {
        check.sentence("DRIVABLE is a leg: it is not against ONE, its WAY is OPEN, and not SHUT on that day by what was told by KNOWN");
        RunSayer x = two();
        x.way(3, 0, 1, 9, 1);
        x.pass(8);
        x.shut(0, 10, 12);
        due("all is well", x.drivable(0, 9, 5, 8), 1);
        due("against one", x.drivable(1, 9, 5, 8), 0);
        due("not open", x.drivable(0, 9, 4, 8), 0);
        due("open in its last hour", x.drivable(0, 9, 21, 8), 1);
        due("not open", x.drivable(0, 9, 22, 8), 0);
        due("shut", x.drivable(0, 10, 5, 8), 0);
        due("shut, as was not known", x.drivable(0, 10, 5, 7), 1);
        due("shut on its last day", x.drivable(0, 11, 5, 8), 0);
        due("no more", x.drivable(0, 12, 5, 8), 1);
        due("day 0", x.drivable(0, 0, 5, 0), 1);
        due("day 299", x.drivable(0, 299, 5, 8), 1);
        due("day 300", x.drivable(0, 300, 5, 8), BAD);
        due("day -1", x.drivable(0, -1, 5, 8), BAD);
        due("hour 0", x.drivable(0, 0, 0, 0), 0);
        due("hour 23", x.drivable(0, 0, 23, 0), 0);
        due("hour -1", x.drivable(0, 0, -1, 0), BAD);
        due("hour 24", x.drivable(0, 0, 24, 0), BAD);
        due("known today", x.drivable(0, 0, 5, 8), 1);
        due("known tomorrow", x.drivable(0, 0, 5, 9), BAD);
        due("known -1", x.drivable(0, 0, 5, -1), BAD);
    }
}
