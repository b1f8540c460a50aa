import java.util.ArrayList;
import java.util.Arrays;
import java.util.HashMap;
import java.util.HashSet;
import java.util.LinkedHashSet;
import java.util.List;
import java.util.Map;
import java.util.Set;
import java.util.regex.Matcher;
import java.util.regex.Pattern;

/**
 * The document once more, written as plainly and slowly as can be, with other means than RunSayer's,
 * so that a slip in the one is not likely to stand in the other.
 */
final class Model {
    static final int NONE = -1, BAD = -2, STATE = -3, FULL = -4;
    static final long NO = -4611686018427387904L;

    record Junction(int x, int y) { }
    record Way(int kind, int a, int b, int feet, boolean one) { }
    record Door(int way, int feet, int side) { }
    record Name(int way, String word, int told) { }
    record Shut(int way, int from, int to, int told) { }
    record Ban(int from, int to, int first, int behind, int days, int told) { }
    record Said(int a, int b, int day, int hour, List<Integer> legs) { }
    record Link(int e, int f) { }
    record Ridden(int times, int last) { }
    record Rule(int take, List<String> tests) { }

    static final class Pupil {
        int keeps;
        Map<Link, Ridden> links = new HashMap<>();
    }

    static final class Exam {
        int pupil, a, b, day, hour, mark, markedBy;
        List<Integer> legs;
    }

    static final class Sheet {
        int sort;
        int[] cells;
    }

    /** What decides which legs and turns may be used. */
    interface Law {
        boolean leg(int e);
        boolean turn(int e, int f);
    }

    /** A row of legs with what it costs. */
    record Row(int twists, int feet, List<Integer> legs) { }

    final List<Junction> junctions = new ArrayList<>();
    final List<Boolean> rings = new ArrayList<>();
    final List<Way> ways = new ArrayList<>();
    final List<Door> doors = new ArrayList<>();
    final List<Object> things = new ArrayList<>();
    final List<Name> names = new ArrayList<>();
    final List<Shut> shuts = new ArrayList<>();
    final List<Ban> bans = new ArrayList<>();
    final List<Said> runs = new ArrayList<>();
    final List<Pupil> pupils = new ArrayList<>();
    final List<Exam> exams = new ArrayList<>();
    final List<Rule> rules = new ArrayList<>();
    final Sheet[] sheets = new Sheet[4];
    String tape = "";
    int today, takenCount;
    Row found = new Row(0, 0, List.of());
    List<Integer> planRow = List.of();

    // ---- the city

    int junction(int x, int y, int ring) {
        if (x < 0 || x > 99 || y < 0 || y > 99 || ring < 0 || ring > 1) return BAD;
        if (junctions.contains(new Junction(x, y))) return STATE;
        if (junctions.size() == 24) return FULL;
        junctions.add(new Junction(x, y));
        rings.add(ring == 1);
        things.add(new Junction(x, y));
        return junctions.size() - 1;
    }

    int ring(int j, int is) {
        if (j < 0 || j >= junctions.size()) return NONE;
        if (is != 0 && is != 1) return BAD;
        return rings.set(j, is == 1) ? 1 : 0;
    }

    int way(int kind, int a, int b, int feet, int one) {
        if (a < 0 || a >= junctions.size() || b < 0 || b >= junctions.size()) return NONE;
        if (kind < 0 || kind > 5 || a == b || feet < 2 || feet > 999 || one < 0 || one > 1) return BAD;
        if (ways.size() == 40) return FULL;
        ways.add(new Way(kind, a, b, feet, one == 1));
        things.add(ways.get(ways.size() - 1));
        return ways.size() - 1;
    }

    int door(int way, int feet, int side) {
        if (noWay(way)) return NONE;
        if (feet < 1 || feet >= ways.get(way).feet || side < 0 || side > 1) return BAD;
        if (doors.size() == 8) return FULL;
        doors.add(new Door(way, feet, side));
        things.add(doors.get(doors.size() - 1));
        return doors.size() - 1;
    }

    int about(int way, int what, int hour) {
        if (noWay(way)) return NONE;
        if (what < 0 || what > 6 || noHour(hour)) return BAD;
        Way w = ways.get(way);
        return List.of(w.kind, w.a, w.b, w.feet, w.one ? 1 : 0, price(w, hour), open(w, hour) ? 1 : 0).get(what);
    }

    static int price(Way w, int hour) {
        return switch (w.kind) {
            case 0 -> w.feet;
            case 1 -> w.feet + 20;
            case 2 -> w.feet + w.feet / 10;
            case 3 -> w.feet + 20 + (hour >= 8 && hour <= 16 ? 10 : 0);
            case 4 -> (w.feet + w.feet / 10) * (hour >= 7 && hour <= 9 ? 2 : 1);
            default -> (w.feet + w.feet / 10) * (hour >= 7 && hour <= 9 ? 2 : 1) + 100;
        };
    }

    static boolean open(Way w, int hour) {
        return !(w.kind == 3 && (hour < 5 || hour > 21)) && !(w.kind == 5 && hour == 3);
    }

    int taken(int thing, int sort) {
        if (sort < 0 || sort > 8) return BAD;
        takenCount++;
        if (thing < 0 || thing >= things.size()) return -11;
        Object it = things.get(thing);
        if (sort == 8) return it instanceof Junction ? 0 : it instanceof Way ? 1 : 2;
        if (sort == 7) return it instanceof Door d ? d.feet : -13;
        if (sort == 6) return it instanceof Junction j ? j.x : -13;
        List<Set<Integer>> are = List.of(Set.of(0), Set.of(0, 1), Set.of(0, 2), Set.of(0, 1, 3),
                Set.of(0, 2, 4), Set.of(0, 2, 4, 5));
        return it instanceof Way w && are.get(w.kind).contains(sort) ? w.feet : -13;
    }

    static String wordOf(long word) {
        StringBuilder bytes = new StringBuilder();
        for (int i = 7; i >= 0; i--) bytes.append((char) ((word >>> (8 * i)) & 255));
        String text = bytes.toString();
        while (text.startsWith("\0")) text = text.substring(1);
        return text.matches("[a-z]{1,8}") ? text : null;
    }

    int name(int way, long word) {
        if (noWay(way)) return NONE;
        if (wordOf(word) == null) return BAD;
        if (names.size() == 60) return FULL;
        names.add(new Name(way, wordOf(word), today));
        return names.size() - 1;
    }

    int answers(int way, long word, int known) {
        if (noWay(way)) return NONE;
        if (wordOf(word) == null || known < 0 || known > today) return BAD;
        return answersTo(way, wordOf(word), known) ? 1 : 0;
    }

    boolean answersTo(int way, String word, int known) {
        return names.stream().anyMatch(n -> n.way == way && n.word.equals(word) && n.told <= known);
    }

    int shut(int way, int from, int to) {
        if (noWay(way)) return NONE;
        if (from < 0 || from > 300 || to < 0 || to > 300 || from >= to) return BAD;
        if (shuts.size() == 40) return FULL;
        shuts.add(new Shut(way, from, to, today));
        return shuts.size() - 1;
    }

    int wasShut(int way, int day, int known) {
        if (noWay(way)) return NONE;
        if (day < 0 || day > 299 || known < 0 || known > today) return BAD;
        return isShut(way, day, known) ? 1 : 0;
    }

    boolean isShut(int way, int day, int known) {
        return shuts.stream().anyMatch(s -> s.way == way && s.told <= known && s.from <= day && day < s.to);
    }

    int ban(int from, int to, int hours, int days) {
        if (noLeg(from) || noLeg(to)) return NONE;
        if (hours < 0 || days < 1 || days > 127) return BAD;
        int first = hours / 100, behind = hours % 100;
        if (first > 23 || behind > 24 || first >= behind) return BAD;
        if (!follows(from, to)) return STATE;
        if (bans.size() == 40) return FULL;
        bans.add(new Ban(from, to, first, behind, days, today));
        return bans.size() - 1;
    }

    boolean isBanned(int e, int f, int day, int hour) {
        return bans.stream().anyMatch(b -> b.from == e && b.to == f && b.told <= day
                && hour >= b.first && hour < b.behind && (b.days & (1 << (day % 7))) != 0);
    }

    int pass(int n) {
        if (n < 1 || n > 100) return BAD;
        if (today + n > 299) return FULL;
        today += n;
        return today;
    }

    int begin(int e) {
        return e % 2 == 0 ? ways.get(e / 2).a : ways.get(e / 2).b;
    }

    int end(int e) {
        return e % 2 == 0 ? ways.get(e / 2).b : ways.get(e / 2).a;
    }

    boolean follows(int e, int f) {
        return end(e) == begin(f) && e / 2 != f / 2;
    }

    List<Integer> followers(int e) {
        List<Integer> all = new ArrayList<>();
        for (int f = 0; f < 2 * ways.size(); f++) if (follows(e, f)) all.add(f);
        return all;
    }

    int turn(int e, int f) {
        if (noLeg(e) || noLeg(f)) return NONE;
        if (!follows(e, f)) return STATE;
        return turned(e, f);
    }

    int turned(int e, int f) {
        Junction p = junctions.get(begin(e)), q = junctions.get(end(e)), r = junctions.get(end(f));
        if (!rings.get(end(e))) {
            int cross = (q.x - p.x) * (r.y - q.y) - (q.y - p.y) * (r.x - q.x);
            int dot = (q.x - p.x) * (r.x - q.x) + (q.y - p.y) * (r.y - q.y);
            return cross < 0 ? 1 : cross == 0 && dot > 0 ? 2 : 0;
        }
        List<Integer> exits = followers(e);
        // places are small, so that unlike directions are well over a billionth of a turn apart
        exits.sort((g, h) -> {
            double byAngle = clockwise(e, g) - clockwise(e, h);
            return Math.abs(byAngle) > 1e-9 ? (byAngle < 0 ? -1 : 1) : Integer.compare(g, h);
        });
        return 3 + exits.indexOf(f);
    }

    double clockwise(int e, int g) {
        Junction from = junctions.get(begin(e)), at = junctions.get(end(e)), to = junctions.get(end(g));
        double back = Math.atan2(from.y - at.y, from.x - at.x), out = Math.atan2(to.y - at.y, to.x - at.x);
        double angle = back - out;
        if (angle < -1e-9) angle += 2 * Math.PI;
        if (angle > 2 * Math.PI - 1e-9) angle -= 2 * Math.PI;
        return angle;
    }

    int drivable(int e, int day, int hour, int known) {
        if (noLeg(e)) return NONE;
        if (day < 0 || day > 299 || noHour(hour) || known < 0 || known > today) return BAD;
        return isDrivable(e, day, hour, known) ? 1 : 0;
    }

    boolean passable(int e, int hour) {
        Way w = ways.get(e / 2);
        return !(w.one && e % 2 == 1) && open(w, hour);
    }

    boolean isDrivable(int e, int day, int hour, int known) {
        return passable(e, hour) && !isShut(e / 2, day, known);
    }

    // ---- runs

    Law city(int day, int hour, int known) {
        return new Law() {
            public boolean leg(int e) { return isDrivable(e, day, hour, known); }
            public boolean turn(int e, int f) { return !isBanned(e, f, day, hour); }
        };
    }

    Law heart(int p, int hour) {
        return new Law() {
            public boolean leg(int e) { return passable(e, hour); }
            public boolean turn(int e, int f) { return held(p, new Link(e, f), today); }
        };
    }

    int twistsAt(int junction, int a, int b) {
        Junction s = junctions.get(ways.get(doors.get(a).way).a), g = junctions.get(ways.get(doors.get(b).way).a);
        Junction it = junctions.get(junction);
        return Math.abs((g.x - s.x) * (it.y - s.y) - (g.y - s.y) * (it.x - s.x));
    }

    int feetFromBegin(int e, int door) {
        Door d = doors.get(door);
        return e % 2 == 0 ? d.feet : ways.get(d.way).feet - d.feet;
    }

    boolean ahead(int e, int a, int b) {
        return doors.get(a).way == e / 2 && doors.get(b).way == e / 2 && feetFromBegin(e, a) < feetFromBegin(e, b);
    }

    Row measured(List<Integer> legs, int a, int b, int hour) {
        if (legs.isEmpty()) return new Row(-1, -1, legs);
        if (legs.size() == 1) {
            return new Row(0, Math.abs(doors.get(a).feet - doors.get(b).feet), legs);
        }
        int twists = 0, feet = 0;
        for (int i = 0; i < legs.size(); i++) {
            int e = legs.get(i);
            if (i + 1 < legs.size()) twists += twistsAt(end(e), a, b);
            if (i == 0) feet += ways.get(e / 2).feet - feetFromBegin(e, a);
            else if (i + 1 == legs.size()) feet += feetFromBegin(e, b);
            else feet += price(ways.get(e / 2), hour);
        }
        return new Row(twists, feet, legs);
    }

    /** By cost, then by the legs one by one, where the one that ends comes ahead of one that goes on. */
    static boolean better(Row one, Row other, boolean byFeet) {
        if (other == null) return true;
        int first = byFeet ? one.feet - other.feet : one.twists - other.twists;
        int second = byFeet ? one.twists - other.twists : one.feet - other.feet;
        if (first != 0) return first < 0;
        if (second != 0) return second < 0;
        for (int i = 0; i < one.legs.size() && i < other.legs.size(); i++) {
            int by = one.legs.get(i) - other.legs.get(i);
            if (by != 0) return by < 0;
        }
        return one.legs.size() < other.legs.size();
    }

    static Row ahead(int leg, int twists, int feet, Row row) {
        List<Integer> legs = new ArrayList<>(List.of(leg));
        legs.addAll(row.legs);
        return new Row(row.twists + twists, row.feet + feet, legs);
    }

    /** The best ways on from each leg's end: rows of at most one leg, of at most two, until none gets better. */
    Row[] onward(int a, int b, int hour, boolean byFeet, Law law) {
        int legs = 2 * ways.size();
        Row[] rows = new Row[legs];
        for (int round = 0; round < 2 * legs + 4; round++) {
            Row[] next = new Row[legs];
            for (int e = 0; e < legs; e++) {
                for (int f : followers(e)) {
                    if (!law.leg(f) || !law.turn(e, f)) continue;
                    if (doors.get(b).way == f / 2) {
                        Row last = new Row(0, feetFromBegin(f, b), List.of(f));
                        if (better(last, next[e], byFeet)) next[e] = last;
                    }
                    if (rows[f] != null) {
                        Row on = ahead(f, twistsAt(end(f), a, b), price(ways.get(f / 2), hour), rows[f]);
                        if (better(on, next[e], byFeet)) next[e] = on;
                    }
                }
            }
            if (Arrays.equals(rows, next)) break;
            rows = next;
        }
        return rows;
    }

    Row bestRow(int a, int b, int hour, boolean byFeet, Law law) {
        Row[] onward = onward(a, b, hour, byFeet, law);
        Row best = null;
        for (int e = 2 * doors.get(a).way; e <= 2 * doors.get(a).way + 1; e++) {
            if (!law.leg(e)) continue;
            if (ahead(e, a, b)) {
                Row alone = measured(List.of(e), a, b, hour);
                if (better(alone, best, byFeet)) best = alone;
            }
            if (onward[e] != null) {
                Row on = ahead(e, twistsAt(end(e), a, b), ways.get(e / 2).feet - feetFromBegin(e, a), onward[e]);
                if (better(on, best, byFeet)) best = on;
            }
        }
        return best == null ? new Row(-1, -1, List.of()) : best;
    }

    int best(int a, int b, int hour, int by) {
        if (noDoor(a) || noDoor(b)) return NONE;
        if (a == b || noHour(hour) || by < 0 || by > 1) return BAD;
        found = bestRow(a, b, hour, by == 1, city(today, hour, today));
        return found.legs.size();
    }

    int bestOn(int a, int b, int days, int hour, int by) {
        if (noDoor(a) || noDoor(b)) return NONE;
        if (a == b || noHour(hour) || by < 0 || by > 1 || days < 0) return BAD;
        if (days / 1000 > 299 || days % 1000 > today) return BAD;
        found = bestRow(a, b, hour, by == 1, city(days / 1000, hour, days % 1000));
        return found.legs.size();
    }

    int leg(int i) {
        return i < 0 || i >= found.legs.size() ? NONE : found.legs.get(i);
    }

    long cost(int what) {
        return what == 0 ? found.twists : what == 1 ? found.feet : NO;
    }

    int prove(int a, int b, int hour) {
        if (noDoor(a) || noDoor(b)) return NONE;
        if (a == b || noHour(hour)) return BAD;
        Row[] rows = onward(a, b, hour, true, city(today, hour, today));
        sheets[0] = new Sheet();
        sheets[0].sort = 2;
        sheets[0].cells = new int[2 * ways.size()];
        for (int e = 0; e < rows.length; e++) sheets[0].cells[e] = rows[e] == null ? -1 : rows[e].feet;
        return rows.length;
    }

    int bound(int a, int b, int hour, int sheet) {
        if (noDoor(a) || noDoor(b)) return NONE;
        if (a == b || noHour(hour) || sheet < 0 || sheet > 3) return BAD;
        if (sheets[sheet] == null) return -11;
        if (sheets[sheet].sort != 2) return -13;
        int[] proof = sheets[sheet].cells;
        if (proof.length != 2 * ways.size()) return -12;
        Law law = city(today, hour, today);
        for (int e = 0; e < proof.length; e++) {
            if (proof[e] < -1) return -100 - e;
            for (int f : followers(e)) {
                if (!law.leg(f) || !law.turn(e, f)) continue;
                long limit = Long.MAX_VALUE;
                if (f / 2 == doors.get(b).way) limit = feetFromBegin(f, b);
                if (proof[f] > -1) limit = Math.min(limit, (long) price(ways.get(f / 2), hour) + proof[f]);
                boolean right = proof[e] == -1 ? limit == Long.MAX_VALUE : proof[e] <= limit;
                if (!right) return -100 - e;
            }
        }
        long least = Long.MAX_VALUE;
        for (int e = 2 * doors.get(a).way; e <= 2 * doors.get(a).way + 1; e++) {
            if (!law.leg(e)) continue;
            if (proof[e] > -1) least = Math.min(least, (long) ways.get(e / 2).feet - feetFromBegin(e, a) + proof[e]);
            if (ahead(e, a, b)) least = Math.min(least, feetFromBegin(e, b) - feetFromBegin(e, a));
        }
        return least == Long.MAX_VALUE ? NONE : (int) Math.min(least, 2147483647L);
    }

    int feed(long w, int n) {
        if (n < 1 || n > 8) return BAD;
        if (tape.length() + n > 160) return FULL;
        for (int i = n - 1; i >= 0; i--) tape += (char) ((w >>> (8 * i)) & 255);
        return tape.length();
    }

    int wipe() {
        int had = tape.length();
        tape = "";
        return had;
    }

    int say(int a, int b, int hour) {
        if (noDoor(a) || noDoor(b)) return NONE;
        if (a == b || noHour(hour)) return BAD;
        if (runs.size() == 10) return FULL;
        List<String> tokens = new ArrayList<>();
        int fault = tokens(tape, tokens);
        tape = "";
        if (fault >= 0) return -100 - fault;
        return drive(a, b, hour, tokens);
    }

    /** Every kind of token at each place, by patterns; -1: all can stand. */
    static int tokens(String tape, List<String> tokens) {
        String wanted = "leave";
        int at = 0, turns = 0;
        while (true) {
            while (at < tape.length() && tape.charAt(at) == ' ') at++;
            if (wanted.equals("nothing")) return at == tape.length() ? -1 : at;
            Matcher m = Pattern.compile("([a-z]+|[0-9]+)").matcher(tape).region(at, tape.length());
            if (!m.lookingAt()) return at;
            String token = m.group();
            String pattern = switch (wanted) {
                case "leave" -> "leave";
                case "first" -> "up|down";
                case "turn" -> turns < 20 ? "left|right|ahead|comply|set" : "set";
                case "digit" -> "[1-9]";
                case "name" -> "[a-z]{1,8}";
                default -> "left|right";
            };
            if (!token.matches(pattern)) return at;
            tokens.add(token);
            at += token.length();
            switch (wanted) {
                case "leave" -> wanted = "first";
                case "first", "name" -> wanted = "turn";
                case "digit" -> wanted = "name";
                case "turn" -> {
                    turns++;
                    wanted = token.equals("set") ? "side" : token.equals("comply") ? "digit" : "name";
                }
                default -> wanted = "nothing";
            }
        }
    }

    int drive(int a, int b, int hour, List<String> tokens) {
        Law law = city(today, hour, today);
        List<Integer> legs = new ArrayList<>();
        int e = 2 * doors.get(a).way + (tokens.get(1).equals("down") ? 1 : 0);
        if (!law.leg(e)) return -1001;
        legs.add(e);
        int i = 2;
        while (!tokens.get(i).equals("set") || i != tokens.size() - 2) {
            int step = legs.size();
            String how = tokens.get(i++);
            int turned = switch (how) {
                case "left" -> 0;
                case "right" -> 1;
                case "ahead" -> 2;
                default -> 2 + Integer.parseInt(tokens.get(i++));
            };
            String word = tokens.get(i++);
            List<Integer> called = new ArrayList<>(), so = new ArrayList<>();
            for (int f : followers(e)) if (answersTo(f / 2, word, today)) called.add(f);
            for (int f : called) if (turned(e, f) == turned) so.add(f);
            if (called.isEmpty()) return -1000 - 10 * step - 2;
            if (so.isEmpty()) return -1000 - 10 * step - 3;
            int f = so.get(0);
            if (!law.leg(f)) return -1000 - 10 * step - 4;
            if (!law.turn(e, f)) return -1000 - 10 * step - 5;
            legs.add(f);
            e = f;
        }
        int last = legs.size() - 1;
        boolean there = legs.size() == 1 ? ahead(e, a, b) : e / 2 == doors.get(b).way;
        if (!there) return -1000 - 10 * last - 6;
        boolean left = tokens.get(tokens.size() - 1).equals("left"), up = e % 2 == 0;
        int side = left ? (up ? 0 : 1) : (up ? 1 : 0);
        if (doors.get(b).side != side) return -1000 - 10 * last - 7;
        runs.add(new Said(a, b, today, hour, legs));
        return runs.size() - 1;
    }

    int run(int r, int i) {
        if (noRun(r)) return NONE;
        if (i < -1 || i >= runs.get(r).legs.size()) return BAD;
        return i == -1 ? runs.get(r).legs.size() : runs.get(r).legs.get(i);
    }

    int runTold(int r, int what) {
        if (noRun(r)) return NONE;
        if (what < 0 || what > 5) return BAD;
        Said s = runs.get(r);
        Row row = measured(s.legs, s.a, s.b, s.hour);
        return List.of(s.a, s.b, s.day, s.hour, row.feet, row.twists).get(what);
    }

    // ---- pupils

    int pupil(int keeps) {
        if (keeps < 1 || keeps > 30) return BAD;
        if (pupils.size() == 4) return FULL;
        Pupil p = new Pupil();
        p.keeps = keeps;
        pupils.add(p);
        return pupils.size() - 1;
    }

    static Set<Link> linksOf(Said run) {
        Set<Link> links = new LinkedHashSet<>();
        for (int i = 0; i + 1 < run.legs.size(); i++) links.add(new Link(run.legs.get(i), run.legs.get(i + 1)));
        return links;
    }

    static void rideOn(Map<Link, Ridden> links, Said run, int day) {
        for (Link link : linksOf(run)) {
            Ridden was = links.getOrDefault(link, new Ridden(0, 0));
            links.put(link, new Ridden(Math.min(6, was.times + 1), day));
        }
    }

    static boolean held(Ridden ridden, int keeps, int day) {
        if (ridden == null) return false;
        int days = keeps;
        for (int i = 1; i < ridden.times; i++) days *= 2;
        return day >= ridden.last && day <= ridden.last + days;
    }

    boolean held(int p, Link link, int day) {
        return held(pupils.get(p).links.get(link), pupils.get(p).keeps, day);
    }

    static int heldOf(Map<Link, Ridden> links, int keeps, int day) {
        return (int) links.values().stream().filter(r -> held(r, keeps, day)).count();
    }

    int ride(int p, int r) {
        if (noPupil(p) || noRun(r)) return NONE;
        rideOn(pupils.get(p).links, runs.get(r), today);
        return heldOf(pupils.get(p).links, pupils.get(p).keeps, today);
    }

    int holds(int p, int e, int f, int day) {
        if (noPupil(p) || noLeg(e) || noLeg(f)) return NONE;
        if (day < today || day > 2000) return BAD;
        return held(p, new Link(e, f), day) ? 1 : 0;
    }

    int knows(int p, int day) {
        if (noPupil(p)) return NONE;
        if (day < today || day > 2000) return BAD;
        return heldOf(pupils.get(p).links, pupils.get(p).keeps, day);
    }

    int wouldSay(int p, int a, int b, int hour) {
        if (noPupil(p) || noDoor(a) || noDoor(b)) return NONE;
        if (a == b || noHour(hour)) return BAD;
        found = bestRow(a, b, hour, false, heart(p, hour));
        return found.legs.size();
    }

    int plan(int p, int set, int n, int day) {
        if (noPupil(p)) return NONE;
        List<Integer> choices = new ArrayList<>();
        for (int r = 0; r < 32; r++) {
            if ((set & (1 << r)) == 0) continue;
            if (noRun(r)) return NONE;
            choices.add(r);
        }
        if (choices.isEmpty() || choices.size() > 4 || n < 1 || n > 4) return BAD;
        if (day < today + n - 1 || day > 2000) return BAD;
        int[] most = {-1};
        planOn(pupils.get(p).links, pupils.get(p).keeps, choices, new ArrayList<>(), n, day, most);
        return most[0];
    }

    private void planOn(Map<Link, Ridden> links, int keeps, List<Integer> choices, List<Integer> row,
            int n, int day, int[] most) {
        if (row.size() == n) {
            int held = heldOf(links, keeps, day);
            if (held > most[0]) {
                most[0] = held;
                planRow = new ArrayList<>(row);
            }
            return;
        }
        for (int r : choices) {
            Map<Link, Ridden> after = new HashMap<>(links);
            rideOn(after, runs.get(r), today + row.size());
            row.add(r);
            planOn(after, keeps, choices, row, n, day, most);
            row.remove(row.size() - 1);
        }
    }

    int planned(int i) {
        return i < 0 || i >= planRow.size() ? NONE : planRow.get(i);
    }

    int parting(int set, int hour) {
        List<Integer> all = new ArrayList<>();
        for (int p = 0; p < 32; p++) {
            if ((set & (1 << p)) == 0) continue;
            if (noPupil(p)) return NONE;
            all.add(p);
        }
        if (all.isEmpty()) return NONE;
        if (noHour(hour)) return BAD;
        int least = all.size(), parts = STATE;
        for (int a = 0; a < doors.size(); a++) {
            for (int b = 0; b < doors.size(); b++) {
                if (a == b) continue;
                Map<List<Integer>, Integer> groups = new HashMap<>();
                for (int p : all) groups.merge(bestRow(a, b, hour, false, heart(p, hour)).legs, 1, Integer::sum);
                int greatest = groups.values().stream().mapToInt(v -> v).max().getAsInt();
                if (greatest < least) {
                    least = greatest;
                    parts = 10 * a + b;
                }
            }
        }
        return parts;
    }

    // ---- exams

    private static final String TEST = "(said|wrong|over|turns|feet|day)([=<>])([0-9]{1,4})";
    private static final Pattern RULE = Pattern.compile("take ([0-9]{1,4})( if " + TEST + "(&" + TEST + "){0,2})?");

    int rule() {
        if (rules.size() == 6) return FULL;
        String text = tape;
        tape = "";
        for (int i = 1; i <= text.length(); i++) {
            Matcher m = RULE.matcher(text.substring(0, i));
            if (!m.matches() && !m.hitEnd()) return -100 - (i - 1);
        }
        Matcher m = RULE.matcher(text);
        if (!m.matches()) return -100 - text.length();
        List<String> tests = new ArrayList<>();
        if (text.contains(" if ")) tests.addAll(Arrays.asList(text.substring(text.indexOf(" if ") + 4).split("&")));
        rules.add(new Rule(Integer.parseInt(m.group(1)), tests));
        return rules.size() - 1;
    }

    int ask(int p, int a, int b, int hour) {
        if (noPupil(p) || noDoor(a) || noDoor(b)) return NONE;
        if (a == b || noHour(hour)) return BAD;
        if (exams.size() == 24) return FULL;
        Exam x = new Exam();
        x.pupil = p;
        x.a = a;
        x.b = b;
        x.day = today;
        x.hour = hour;
        x.legs = bestRow(a, b, hour, false, heart(p, hour)).legs;
        mark(x);
        exams.add(x);
        return exams.size() - 1;
    }

    private void mark(Exam x) {
        Map<String, Integer> fields = new HashMap<>();
        boolean said = !x.legs.isEmpty();
        Law law = city(x.day, x.hour, today);
        boolean wrong = x.legs.stream().anyMatch(e -> !law.leg(e));
        for (int i = 0; i + 1 < x.legs.size(); i++) wrong |= !law.turn(x.legs.get(i), x.legs.get(i + 1));
        int feet = said ? measured(x.legs, x.a, x.b, x.hour).feet : 0;
        Row least = bestRow(x.a, x.b, x.hour, true, law);
        int over = !said || least.legs.isEmpty() || feet <= least.feet ? 0 : (feet - least.feet) * 100 / least.feet;
        fields.put("said", said ? 1 : 0);
        fields.put("wrong", wrong ? 1 : 0);
        fields.put("over", over);
        fields.put("turns", said ? x.legs.size() - 1 : 0);
        fields.put("feet", feet);
        fields.put("day", x.day);
        int mark = 100;
        for (Rule rule : rules) {
            boolean all = true;
            for (String test : rule.tests) {
                String[] parts = test.split("[=<>]");
                int value = fields.get(parts[0]), n = Integer.parseInt(parts[1]);
                char sign = test.charAt(parts[0].length());
                all &= sign == '=' ? value == n : sign == '<' ? value < n : value > n;
            }
            if (all) mark -= rule.take;
        }
        x.mark = Math.max(0, mark);
        x.markedBy = today;
    }

    int examTold(int k, int what) {
        if (k < 0 || k >= exams.size()) return NONE;
        if (what < 0 || what > 7) return BAD;
        Exam x = exams.get(k);
        return List.of(x.pupil, x.a, x.b, x.day, x.hour, x.mark, x.legs.size(), x.markedBy).get(what);
    }

    int appeal(int k) {
        if (k < 0 || k >= exams.size()) return NONE;
        int was = exams.get(k).mark;
        mark(exams.get(k));
        return exams.get(k).mark - was;
    }

    int count(int what) {
        if (what < 0 || what > 13) return BAD;
        return List.of(junctions.size(), ways.size(), doors.size(), today, names.size(), shuts.size(), bans.size(),
                runs.size(), pupils.size(), exams.size()).size() > what
                ? List.of(junctions.size(), ways.size(), doors.size(), today, names.size(), shuts.size(), bans.size(),
                        runs.size(), pupils.size(), exams.size()).get(what)
                : List.of(rules.size(), tape.length(), takenCount, things.size()).get(what - 10);
    }

    // ---- the host

    int sheet(int s, int sort, int n) {
        if (s < 0 || s > 3 || sort < -1 || sort > 2) return BAD;
        if (sort == -1) {
            sheets[s] = null;
            return 1;
        }
        if (n > 100) return BAD;
        if (n < 0) return -14;
        sheets[s] = new Sheet();
        sheets[s].sort = sort;
        sheets[s].cells = new int[n];
        return 1;
    }

    int cell(int s, int i, int v) {
        if (s < 0 || s > 3) return BAD;
        if (sheets[s] == null) return -11;
        if (i < 0 || i >= sheets[s].cells.length) return -12;
        sheets[s].cells[i] = sheets[s].sort == 0 ? (byte) v : sheets[s].sort == 1 ? (short) v : v;
        return 1;
    }

    int read(int s, int i) {
        if (s < 0 || s > 3) return BAD;
        return sheets[s] == null || i < 0 || i >= sheets[s].cells.length ? 0 : sheets[s].cells[i];
    }

    int copy(int s, int i, int other, int j, int n) {
        if (s < 0 || s > 3 || other < 0 || other > 3) return BAD;
        if (sheets[s] == null || sheets[other] == null) return -11;
        if (sheets[s].sort != sheets[other].sort) return -13;
        int[] from = sheets[s].cells.clone(), to = sheets[other].cells;
        try {
            System.arraycopy(from, i, to, j, n);
        } catch (IndexOutOfBoundsException e) {
            return -12;
        }
        return n;
    }

    int junctions(int s, int sort, int from, int n) {
        if (s < 0 || s > 3 || sort < 0 || sort > 2 || n < 0 || n > 30) return BAD;
        if (sheets[s] == null) return -11;
        if (sheets[s].sort != sort) return -13;
        int[] row = sheets[s].cells;
        int came = 0;
        for (long at = from; at < from + 3L * n; at += 3) {
            if (at < 0 || at + 2 >= row.length) return -12;
            int k = (int) at;
            if (junction(row[k], row[k + 1], row[k + 2]) >= 0) came++;
        }
        return came;
    }

    private boolean noWay(int w) {
        return w < 0 || w >= ways.size();
    }

    private boolean noLeg(int e) {
        return e < 0 || e >= 2 * ways.size();
    }

    private boolean noDoor(int d) {
        return d < 0 || d >= doors.size();
    }

    private boolean noPupil(int p) {
        return p < 0 || p >= pupils.size();
    }

    private boolean noRun(int r) {
        return r < 0 || r >= runs.size();
    }

    private static boolean noHour(int hour) {
        return hour < 0 || hour > 23;
    }
}
