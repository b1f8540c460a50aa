import java.util.ArrayList;
import java.util.HashMap;
import java.util.List;
import java.util.Map;

/**
 * Each refusal of each promise: alone, and with all those that the promise tells behind it, on a city with room
 * and on one where all is full; and that it changes nothing that can be asked for.
 */
final class RefusalsTest {
    private static final Check check = new Check("RefusalsTest");
    private static final int NONE = -1, BAD = -2, STATE = -3, FULL = -4;
    private static final int MIN = Integer.MIN_VALUE, MAX = Integer.MAX_VALUE;
    // an object is used for 512 calls: 330 make the full town, the rest is shared by these and by a look
    private static final int ROWS_AT_ONCE = 50, LOOKS = 4;

    interface Call {
        long on(RunSayer x);
    }

    interface Valued {
        long on(RunSayer x, int v);
    }

    record Row(String what, long want, Call call) { }

    private static final List<Row> rows = new ArrayList<>();
    private static final Map<String, String> untouched = new HashMap<>();
    private static Towns town;

    public static void main(String[] args) {
        Towns[] both = {Towns.withRoom(), Towns.allFull()};
        for (Towns t : both) {
            town = t;
            tables();
            city();
            days();
            runs();
            tape();
            pupils();
            exams();
            host();
        }
        check.end();
    }

    // ---- how rows are told and tried

    /** Values on both sides of least .. most, next to it and as far off as can be. */
    private static int[] out(int least, int most) {
        return new int[] {least - 1, most + 1, MIN, MAX};
    }

    private static void row(long want, String what, Call call) {
        rows.add(new Row(what, want, call));
    }

    private static void row(long want, String what, int[] values, Valued call) {
        for (int v : values) {
            row(want, what + " " + v, x -> call.on(x, v));
        }
    }

    /** Tries all rows that were told: what they answer, and that what can be seen behind them is as it was. */
    private static void refused(int number, String call) {
        check.promise(number, call + (town.full ? ", all is full" : ", there is room"));
        for (int from = 0; from < rows.size(); from += ROWS_AT_ONCE) {
            List<Row> some = rows.subList(from, Math.min(from + ROWS_AT_ONCE, rows.size()));
            for (int look = 0; look < LOOKS; look++) {
                RunSayer x = town.make();
                for (Row r : some) {
                    check.due(r.what, r.call.on(x), r.want);
                }
                int sight = look;
                String was = untouched.computeIfAbsent(town.full + " " + look, key -> seen(town.make(), sight));
                String now = seen(x, look);
                check.isTrue("it changes nothing: " + was + " was, " + now + " is", now.equals(was));
            }
        }
        rows.clear();
    }

    private static String seen(RunSayer x, int look) {
        StringBuilder all = new StringBuilder();
        switch (look) {
            case 0 -> lookAtCounts(x, all);
            case 1 -> lookAtSchool(x, all);
            case 2 -> lookAtSheets(x, all);
            default -> lookAtCity(x, all);
        }
        return all.toString();
    }

    private static void tell(StringBuilder all, long answer) {
        all.append(answer).append(' ');
    }

    private static void lookAtCounts(RunSayer x, StringBuilder all) {
        for (int what = 0; what < 14; what++) {
            tell(all, x.count(what));
        }
        for (int i = 0; i < 5; i++) {
            tell(all, x.cost(i & 1));
            tell(all, x.leg(i));
            tell(all, x.planned(i));
        }
        for (int r = 0; r < 10; r += 3) {
            for (int i = -1; i < 6; i++) {
                tell(all, x.run(r, i));
                tell(all, x.runTold(r, i));
            }
        }
    }

    private static void lookAtSchool(RunSayer x, StringBuilder all) {
        int today = x.count(3);
        for (int k = 0; k < 24; k += 11) {
            for (int what = 0; what < 8; what++) {
                tell(all, x.examTold(k, what));
            }
        }
        for (int p = 0; p < 4; p++) {
            for (int ahead = 0; ahead < 6; ahead++) {
                tell(all, x.knows(p, today + ahead));
            }
            tell(all, x.holds(p, 0, 2, today));
            tell(all, x.wouldSay(p, 0, 1, 6));
        }
        tell(all, x.parting(3, 6));
        tell(all, x.ride(0, 0));
        tell(all, x.ride(1, 1));
        // what stands on the tape is seen by what comes of it
        tell(all, x.rule());
        tell(all, x.ask(0, 0, 1, 6));
        tell(all, x.examTold(1, 5));
        tell(all, x.wipe());
    }

    private static void lookAtSheets(RunSayer x, StringBuilder all) {
        for (int s = 0; s < 4; s++) {
            for (int i = 0; i < 10; i++) {
                tell(all, x.read(s, i));
            }
            for (int other = 0; other < 4; other++) {
                tell(all, x.copy(s, 0, other, 0, 0));
            }
            tell(all, x.cell(s, 0, 1));
            tell(all, x.cell(s, 2, 300));
            tell(all, x.read(s, 2));
            tell(all, x.cell(s, 3, 1));
            tell(all, x.cell(s, 8, 1));
            tell(all, x.cell(s, 9, 1));
        }
    }

    private static void lookAtCity(RunSayer x, StringBuilder all) {
        long[] words = {Cities.word("elm"), Cities.word("oak"), 'a'};
        for (int w = 0; w < 5; w++) {
            for (int what = 0; what < 5; what++) {
                tell(all, x.about(w, what, 0));
            }
            for (long word : words) {
                tell(all, x.answers(w, word, 0));
            }
            tell(all, x.wasShut(w, 0, 0) + 10 * x.wasShut(w, 205, 3) + 100 * x.wasShut(w, 299, 3));
            tell(all, x.drivable(2 * w, 3, 6, 3) + 10 * x.drivable(2 * w + 1, 3, 6, 3));
        }
        for (int e = 0; e < 8; e += 2) {
            tell(all, x.turn(e, (e + 2) % 8));
            tell(all, x.bestOn(0, 1, 1000 * e, 6, 1));
        }
        for (int i = 0; i < 12; i++) {
            tell(all, x.taken(i, 8));
            tell(all, x.taken(i, i < 4 ? 6 : i < 8 ? 0 : 7));
        }
    }

    // ---- the promises

    private static void tables() {
        row(BAD, "x", out(0, 99), (x, v) -> x.junction(v, 10, 0));
        row(BAD, "y", out(0, 99), (x, v) -> x.junction(20, v, 0));
        row(BAD, "ring", out(0, 1), (x, v) -> x.junction(20, 20, v));
        row(BAD, "ring, and there is one", out(0, 1), (x, v) -> x.junction(10, 10, v));
        row(STATE, "there is one", x -> x.junction(10, 10, 0));
        row(STATE, "there is one", x -> x.junction(50, 50, 1));
        if (town.full) {
            row(FULL, "a 25th", x -> x.junction(20, 20, 0));
        }
        refused(2, "junction");
        row(NONE, "j", out(0, town.junctions - 1), (x, v) -> x.ring(v, 0));
        row(NONE, "j, and is", out(0, town.junctions - 1), (x, v) -> x.ring(v, 2));
        row(BAD, "is", out(0, 1), (x, v) -> x.ring(0, v));
        refused(3, "ring");
        row(NONE, "a", out(0, town.junctions - 1), (x, v) -> x.way(0, v, 1, 5, 0));
        row(NONE, "b", out(0, town.junctions - 1), (x, v) -> x.way(0, 0, v, 5, 0));
        row(NONE, "a and b, and all the rest", out(0, town.junctions - 1), (x, v) -> x.way(6, v, v, 1, 2));
        row(BAD, "kind", out(0, 5), (x, v) -> x.way(v, 0, 1, 5, 0));
        row(BAD, "a is b", x -> x.way(0, 2, 2, 5, 0));
        row(BAD, "feet", out(2, 999), (x, v) -> x.way(0, 0, 1, v, 0));
        row(BAD, "one", out(0, 1), (x, v) -> x.way(0, 0, 1, 5, v));
        if (town.full) {
            row(FULL, "a 41st", x -> x.way(0, 0, 1, 5, 0));
        }
        refused(4, "way");
        row(NONE, "way", out(0, town.ways - 1), (x, v) -> x.door(v, 1, 0));
        row(NONE, "way, and all the rest", out(0, town.ways - 1), (x, v) -> x.door(v, 0, 2));
        row(BAD, "feet", out(1, 39), (x, v) -> x.door(0, v, 0));
        row(BAD, "side", out(0, 1), (x, v) -> x.door(0, 1, v));
        if (town.full) {
            row(FULL, "a ninth", x -> x.door(0, 1, 0));
        }
        refused(5, "door");
    }

    private static void city() {
        row(NONE, "way", out(0, town.ways - 1), (x, v) -> x.about(v, 0, 0));
        row(NONE, "way, and all the rest", out(0, town.ways - 1), (x, v) -> x.about(v, 7, 24));
        row(BAD, "what", out(0, 6), (x, v) -> x.about(0, v, 0));
        for (int what = 0; what < 7; what++) {
            int w = what;
            row(BAD, "hour with what " + w, out(0, 23), (x, v) -> x.about(0, w, v));
        }
        refused(6, "about");
        row(BAD, "sort", out(0, 8), (x, v) -> x.taken(0, v));
        row(BAD, "sort, and no such thing", out(0, 8), (x, v) -> x.taken(72, v));
        refused(7, "taken");
        row(NONE, "way", out(0, town.ways - 1), (x, v) -> x.name(v, 'a'));
        row(NONE, "way, and no word", out(0, town.ways - 1), (x, v) -> x.name(v, 0));
        row(BAD, "no word", new int[] {0, 'a' - 1, 'z' + 1, 'A', ' ', MIN, MAX, -1}, (x, v) -> x.name(0, v));
        if (town.full) {
            row(FULL, "a 61st", x -> x.name(0, 'a'));
        }
        refused(8, "name");
        row(NONE, "way", out(0, town.ways - 1), (x, v) -> x.answers(v, 'a', 0));
        row(NONE, "way, and all the rest", out(0, town.ways - 1), (x, v) -> x.answers(v, 0, -1));
        row(BAD, "no word", new int[] {0, 'a' - 1, 'z' + 1, -1}, (x, v) -> x.answers(0, v, 0));
        row(BAD, "known", out(0, town.today), (x, v) -> x.answers(0, 'a', v));
        refused(9, "answers");
        row(NONE, "e", out(0, town.legs - 1), (x, v) -> x.turn(v, 2));
        row(NONE, "f", out(0, town.legs - 1), (x, v) -> x.turn(0, v));
        row(STATE, "it is elsewhere", x -> x.turn(0, 4));
        row(STATE, "it is of the same way", x -> x.turn(0, 1));
        row(STATE, "it is the same leg", x -> x.turn(0, 0));
        row(STATE, "it comes to the same place", x -> x.turn(0, 3));
        refused(14, "turn");
    }

    private static void days() {
        row(NONE, "way", out(0, town.ways - 1), (x, v) -> x.shut(v, 0, 1));
        row(NONE, "way, and all the rest", out(0, town.ways - 1), (x, v) -> x.shut(v, 301, -1));
        row(BAD, "from", new int[] {-1, MIN, 10, 11, 301, MAX}, (x, v) -> x.shut(0, v, 10));
        row(BAD, "to", new int[] {301, MAX, 5, 4, -1, MIN}, (x, v) -> x.shut(0, 5, v));
        if (town.full) {
            row(FULL, "a 41st", x -> x.shut(0, 0, 300));
        }
        refused(10, "shut");
        row(NONE, "way", out(0, town.ways - 1), (x, v) -> x.wasShut(v, 0, 0));
        row(NONE, "way, and all the rest", out(0, town.ways - 1), (x, v) -> x.wasShut(v, 300, -1));
        row(BAD, "day", out(0, 299), (x, v) -> x.wasShut(0, v, 0));
        row(BAD, "known", out(0, town.today), (x, v) -> x.wasShut(0, 0, v));
        refused(11, "wasShut");
        row(NONE, "from", out(0, town.legs - 1), (x, v) -> x.ban(v, 2, 1, 1));
        row(NONE, "to", out(0, town.legs - 1), (x, v) -> x.ban(0, v, 1, 1));
        row(NONE, "both, and all the rest", out(0, town.legs - 1), (x, v) -> x.ban(v, v, 0, 0));
        int[] hours = {0, 25, 99, 100, 101, 125, 505, 504, 2300, 2322, 2325, 2400, 2424, 2425, -1, -99, -100, -76, MIN, MAX};
        row(BAD, "hours", hours, (x, v) -> x.ban(0, 2, v, 1));
        row(BAD, "days", out(1, 127), (x, v) -> x.ban(0, 2, 1, v));
        row(BAD, "hours, and it does not follow", hours, (x, v) -> x.ban(0, 4, v, 1));
        row(BAD, "days, and it does not follow", out(1, 127), (x, v) -> x.ban(0, 1, 1, v));
        row(STATE, "it is elsewhere", x -> x.ban(0, 4, 1, 1));
        row(STATE, "it is of the same way", x -> x.ban(0, 1, 1, 1));
        if (town.full) {
            row(FULL, "a 41st", x -> x.ban(0, 2, 1, 1));
        }
        refused(12, "ban");
        row(BAD, "n", out(1, 100), (x, v) -> x.pass(v));
        if (town.full) {
            row(FULL, "beyond the last day", x -> x.pass(1));
            row(FULL, "beyond the last day", x -> x.pass(100));
        }
        refused(13, "pass");
        row(NONE, "e", out(0, town.legs - 1), (x, v) -> x.drivable(v, 0, 0, 0));
        row(NONE, "e, and all the rest", out(0, town.legs - 1), (x, v) -> x.drivable(v, 300, 24, -1));
        row(BAD, "day", out(0, 299), (x, v) -> x.drivable(0, v, 0, 0));
        row(BAD, "hour", out(0, 23), (x, v) -> x.drivable(0, 0, v, 0));
        row(BAD, "known", out(0, town.today), (x, v) -> x.drivable(0, 0, 0, v));
        refused(15, "drivable");
    }

    private static void runs() {
        row(NONE, "a", out(0, town.doors - 1), (x, v) -> x.best(v, 1, 6, 0));
        row(NONE, "b", out(0, town.doors - 1), (x, v) -> x.best(0, v, 6, 0));
        row(NONE, "both, and all the rest", out(0, town.doors - 1), (x, v) -> x.best(v, v, 24, 2));
        row(BAD, "a is b", x -> x.best(1, 1, 6, 0));
        row(BAD, "hour", out(0, 23), (x, v) -> x.best(0, 1, v, 0));
        row(BAD, "by", out(0, 1), (x, v) -> x.best(0, 1, 6, v));
        refused(16, "best");
        row(NONE, "a", out(0, town.doors - 1), (x, v) -> x.bestOn(v, 1, 0, 6, 0));
        row(NONE, "b", out(0, town.doors - 1), (x, v) -> x.bestOn(0, v, 0, 6, 0));
        row(NONE, "both, and all the rest", out(0, town.doors - 1), (x, v) -> x.bestOn(v, v, -1, 24, 2));
        row(BAD, "a is b", x -> x.bestOn(1, 1, 0, 6, 0));
        row(BAD, "known", out(0, town.today), (x, v) -> x.bestOn(0, 1, v, 6, 0));
        row(BAD, "day", new int[] {300_000, -1000, -1, -999, MIN, MAX}, (x, v) -> x.bestOn(0, 1, v, 6, 0));
        row(BAD, "known of the last day", new int[] {299_000 + town.today + 1, 299_999}, (x, v) -> x.bestOn(0, 1, v, 6, 0));
        row(BAD, "hour", out(0, 23), (x, v) -> x.bestOn(0, 1, 0, v, 0));
        row(BAD, "by", out(0, 1), (x, v) -> x.bestOn(0, 1, 0, 6, v));
        refused(17, "bestOn");
        row(NONE, "i", out(0, 2), (x, v) -> x.leg(v));
        refused(18, "leg");
        row(RunSayer.NO, "what", out(0, 1), (x, v) -> x.cost(v));
        refused(19, "cost");
        row(NONE, "a", out(0, town.doors - 1), (x, v) -> x.prove(v, 1, 6));
        row(NONE, "b", out(0, town.doors - 1), (x, v) -> x.prove(0, v, 6));
        row(NONE, "both, and all the rest", out(0, town.doors - 1), (x, v) -> x.prove(v, v, 24));
        row(BAD, "a is b", x -> x.prove(1, 1, 6));
        row(BAD, "hour", out(0, 23), (x, v) -> x.prove(0, 1, v));
        refused(20, "prove");
        row(NONE, "a", out(0, town.doors - 1), (x, v) -> x.bound(v, 1, 6, 0));
        row(NONE, "b", out(0, town.doors - 1), (x, v) -> x.bound(0, v, 6, 0));
        row(NONE, "both, and all the rest", out(0, town.doors - 1), (x, v) -> x.bound(v, v, 24, 4));
        row(BAD, "a is b, and the sheet is missing", x -> x.bound(1, 1, 6, 0));
        row(BAD, "hour, and the sheet is missing", out(0, 23), (x, v) -> x.bound(0, 1, v, 0));
        row(BAD, "sheet", out(0, 3), (x, v) -> x.bound(0, 1, 6, v));
        row(-11, "the sheet is missing", x -> x.bound(0, 1, 6, 0));
        row(-13, "shorts, of another size", x -> x.bound(0, 1, 6, 1));
        row(-13, "bytes, of another size", x -> x.bound(0, 1, 6, 3));
        row(-12, "ints, of another size", x -> x.bound(0, 1, 6, 2));
        refused(21, "bound");
        boundInOrder();
    }

    /** The size comes ahead of a wrong leg, a wrong leg ahead of that nothing bounds it. */
    private static void boundInOrder() {
        RunSayer x = town.make();
        check.due("sheet", x.sheet(1, 2, town.legs - 1), 1);
        check.due("cell", x.cell(1, 0, -2), 1);
        check.due("one too few, and leg 0 is wrong", x.bound(0, 1, 6, 1), -12);
        check.due("sheet", x.sheet(1, 2, town.legs + 1), 1);
        check.due("cell", x.cell(1, 0, -2), 1);
        check.due("one too many, and leg 0 is wrong", x.bound(0, 1, 6, 1), -12);
        check.due("sheet", x.sheet(1, 2, town.legs), 1);
        for (int e = 0; e < 8; e++) {
            check.due("cell", x.cell(1, e, -1), 1);
        }
        check.due("leg 2 is wrong, and nothing bounds it", x.bound(0, 1, 6, 1), -102);
        check.due("leg 2 leads into ash, 30 from its a", x.cell(1, 2, 30), 1);
        check.due("leg 0 leads into leg 2", x.bound(0, 1, 6, 1), -100);
        check.due("leg 0 is right, 40 and 30", x.cell(1, 0, 70), 1);
        check.due("leg 6 leads into leg 0", x.bound(0, 1, 6, 1), -106);
    }

    private static void tape() {
        row(BAD, "n", out(1, 8), (x, v) -> x.feed('a', v));
        if (town.full) {
            for (int n = 1; n <= 8; n++) {
                int many = n;
                row(FULL, "beyond 160", x -> x.feed('a', many));
            }
        }
        refused(22, "feed");
        row(NONE, "a", out(0, town.doors - 1), (x, v) -> x.say(v, 1, 6));
        row(NONE, "b", out(0, town.doors - 1), (x, v) -> x.say(0, v, 6));
        row(NONE, "both, and the hour", out(0, town.doors - 1), (x, v) -> x.say(v, v, 24));
        row(BAD, "a is b", x -> x.say(1, 1, 6));
        row(BAD, "hour", out(0, 23), (x, v) -> x.say(0, 1, v));
        if (town.full) {
            row(FULL, "an eleventh, ahead of the fault", x -> x.say(0, 1, 6));
        }
        refused(24, "say");
        row(NONE, "r", out(0, town.runs - 1), (x, v) -> x.run(v, 0));
        row(NONE, "r, and i", out(0, town.runs - 1), (x, v) -> x.run(v, -2));
        row(BAD, "i of three", out(-1, 2), (x, v) -> x.run(1, v));
        row(BAD, "i of one", out(-1, 0), (x, v) -> x.run(0, v));
        refused(25, "run");
        row(NONE, "r", out(0, town.runs - 1), (x, v) -> x.runTold(v, 0));
        row(NONE, "r, and what", out(0, town.runs - 1), (x, v) -> x.runTold(v, 6));
        row(BAD, "what", out(0, 5), (x, v) -> x.runTold(0, v));
        refused(26, "runTold");
    }

    private static void pupils() {
        int p = town.pupils - 1, d = town.doors - 1, e = town.legs - 1, t = town.today;
        row(BAD, "keeps", out(1, 30), (x, v) -> x.pupil(v));
        if (town.full) {
            row(FULL, "a fifth", x -> x.pupil(1));
        }
        refused(27, "pupil");
        row(NONE, "p", out(0, p), (x, v) -> x.ride(v, 0));
        row(NONE, "r", out(0, town.runs - 1), (x, v) -> x.ride(0, v));
        refused(28, "ride");
        row(NONE, "p", out(0, p), (x, v) -> x.holds(v, 0, 2, t));
        row(NONE, "e", out(0, e), (x, v) -> x.holds(0, v, 2, t));
        row(NONE, "f", out(0, e), (x, v) -> x.holds(0, 0, v, t));
        row(NONE, "all, and the day", out(0, e), (x, v) -> x.holds(v, v, v, t - 1));
        row(BAD, "day", out(t, 2000), (x, v) -> x.holds(0, 0, 2, v));
        refused(29, "holds");
        row(NONE, "p", out(0, p), (x, v) -> x.knows(v, t));
        row(NONE, "p, and the day", out(0, p), (x, v) -> x.knows(v, t - 1));
        row(BAD, "day", out(t, 2000), (x, v) -> x.knows(0, v));
        refused(30, "knows");
        row(NONE, "p", out(0, p), (x, v) -> x.wouldSay(v, 0, 1, 6));
        row(NONE, "a", out(0, d), (x, v) -> x.wouldSay(0, v, 1, 6));
        row(NONE, "b", out(0, d), (x, v) -> x.wouldSay(0, 0, v, 6));
        row(NONE, "all, and the hour", out(0, d), (x, v) -> x.wouldSay(v, v, v, 24));
        row(BAD, "a is b", x -> x.wouldSay(0, 1, 1, 6));
        row(BAD, "hour", out(0, 23), (x, v) -> x.wouldSay(0, 0, 1, v));
        refused(31, "wouldSay");
        int[] sets = {1 << town.runs, (1 << town.runs) + 1, -1, MIN, MAX, 1 << 30};
        row(NONE, "p", out(0, p), (x, v) -> x.plan(v, 1, 1, t));
        row(NONE, "set", sets, (x, v) -> x.plan(0, v, 1, t));
        row(NONE, "set, and all the rest", sets, (x, v) -> x.plan(0, v, 0, -1));
        row(BAD, "an empty set", x -> x.plan(0, 0, 1, t));
        if (town.full) {
            row(BAD, "five, ten", new int[] {31, 1023, 1023 - 31}, (x, v) -> x.plan(0, v, 1, t));
        }
        row(BAD, "n", out(1, 4), (x, v) -> x.plan(0, 1, v, 1000));
        for (int n = 1; n <= 4; n++) {
            int many = n;
            row(BAD, "day of " + n, out(t + n - 1, 2000), (x, v) -> x.plan(0, 1, many, v));
        }
        refused(32, "plan");
        row(NONE, "i", out(0, 1), (x, v) -> x.planned(v));
        refused(33, "planned");
        int[] classes = {0, 1 << town.pupils, (1 << town.pupils) + 1, -1, MIN, MAX};
        row(NONE, "set", classes, (x, v) -> x.parting(v, 6));
        row(NONE, "set, and the hour", classes, (x, v) -> x.parting(v, 24));
        row(BAD, "hour", out(0, 23), (x, v) -> x.parting(1, v));
        row(STATE, "none parts one", x -> x.parting(1, 6));
        refused(34, "parting");
    }

    private static void exams() {
        int d = town.doors - 1;
        if (town.full) {
            row(FULL, "a seventh, ahead of the fault", x -> x.rule());
        }
        refused(35, "rule");
        row(NONE, "p", out(0, town.pupils - 1), (x, v) -> x.ask(v, 0, 1, 6));
        row(NONE, "a", out(0, d), (x, v) -> x.ask(0, v, 1, 6));
        row(NONE, "b", out(0, d), (x, v) -> x.ask(0, 0, v, 6));
        row(NONE, "all, and the hour", out(0, d), (x, v) -> x.ask(v, v, v, 24));
        row(BAD, "a is b", x -> x.ask(0, 1, 1, 6));
        row(BAD, "hour", out(0, 23), (x, v) -> x.ask(0, 0, 1, v));
        if (town.full) {
            row(FULL, "a 25th", x -> x.ask(0, 0, 1, 6));
        }
        refused(36, "ask");
        row(NONE, "k", out(0, town.exams - 1), (x, v) -> x.examTold(v, 0));
        row(NONE, "k, and what", out(0, town.exams - 1), (x, v) -> x.examTold(v, 8));
        row(BAD, "what", out(0, 7), (x, v) -> x.examTold(0, v));
        refused(37, "examTold");
        row(NONE, "k", out(0, town.exams - 1), (x, v) -> x.appeal(v));
        refused(38, "appeal");
        row(BAD, "what", out(0, 13), (x, v) -> x.count(v));
        refused(39, "count");
    }

    private static void host() {
        row(BAD, "s", out(0, 3), (x, v) -> x.sheet(v, 0, 1));
        row(BAD, "s, and n below 0", out(0, 3), (x, v) -> x.sheet(v, 0, -1));
        row(BAD, "sort", out(-1, 2), (x, v) -> x.sheet(1, v, 1));
        row(BAD, "sort, and n below 0", out(-1, 2), (x, v) -> x.sheet(1, v, -1));
        row(BAD, "n above 100", new int[] {101, MAX}, (x, v) -> x.sheet(1, 2, v));
        row(-14, "n below 0", new int[] {-1, MIN}, (x, v) -> x.sheet(1, 2, v));
        refused(40, "sheet");
        row(BAD, "s", out(0, 3), (x, v) -> x.cell(v, 0, 1));
        row(-11, "missing", new int[] {0, -1}, (x, v) -> x.cell(0, v, 1));
        row(-12, "i of three", out(0, 2), (x, v) -> x.cell(1, v, 1));
        row(-12, "i of none", out(0, -1), (x, v) -> x.cell(3, v, 1));
        refused(41, "cell");
        row(BAD, "s", out(0, 3), (x, v) -> x.read(v, 0));
        row(0, "i of three", out(0, 2), (x, v) -> x.read(1, v));
        row(0, "of a missing one", out(1, 1), (x, v) -> x.read(0, v));
        refused(42, "read");
        row(BAD, "s, and a missing one", out(0, 3), (x, v) -> x.copy(v, 0, 0, 0, 1));
        row(BAD, "other, and a missing one", out(0, 3), (x, v) -> x.copy(0, 0, v, 0, 1));
        row(-11, "s, and a place outside", x -> x.copy(0, -1, 1, 0, 1));
        row(-11, "other, and a place outside", x -> x.copy(1, -1, 0, 0, 1));
        row(-11, "both", x -> x.copy(0, 0, 0, 0, 0));
        row(-13, "unlike sorts, and a place outside", x -> x.copy(1, 0, 2, -1, 1));
        row(-13, "unlike sorts, and n below 0", x -> x.copy(2, 0, 3, 0, -1));
        row(-12, "i", new int[] {-1, 3, MIN, MAX}, (x, v) -> x.copy(1, v, 1, 0, 1));
        row(-12, "j", new int[] {-1, 3, MIN, MAX}, (x, v) -> x.copy(1, 0, 1, v, 1));
        row(-12, "n", out(0, 3), (x, v) -> x.copy(1, 0, 1, 0, v));
        row(-12, "i of none", new int[] {-1, 4, MIN, MAX}, (x, v) -> x.copy(1, v, 1, 0, 0));
        row(-12, "j of none", new int[] {-1, 4, MIN, MAX}, (x, v) -> x.copy(1, 0, 1, v, 0));
        refused(43, "copy");
        row(BAD, "s", out(0, 3), (x, v) -> x.junctions(v, 0, 0, 1));
        row(BAD, "sort, and it is missing", out(0, 2), (x, v) -> x.junctions(0, v, 0, 1));
        row(BAD, "n, and it is missing", out(0, 30), (x, v) -> x.junctions(0, 0, 0, v));
        row(-11, "missing, and a place outside", x -> x.junctions(0, 2, -1, 1));
        row(-13, "of another sort, and a place outside", x -> x.junctions(1, 0, -1, 1));
        row(-13, "of another sort", x -> x.junctions(2, 1, 0, 1));
        row(-12, "from", new int[] {-1, 7, 8, 9, MIN, MAX, MAX - 1, MAX - 2}, (x, v) -> x.junctions(2, 2, v, 1));
        refused(44, "junctions");
    }
}
