import java.lang.reflect.Method;
import java.util.ArrayDeque;
import java.util.ArrayList;
import java.util.Deque;
import java.util.HashMap;
import java.util.List;
import java.util.Map;
import java.util.Random;
import java.util.TreeMap;

/**
 * Long runs of calls, drawn by chance from fixed seeds, on RunSayer and on the Model: all answers are alike.
 * Arguments: the project's folder (not used), how many runs, the first seed, and "tell" to have the answers counted.
 */
final class ModelTest {
    private static final int CALLS = 512;
    private static final Map<String, Method> OURS = methods(RunSayer.class), THEIRS = methods(Model.class);
    private static final Map<String, Integer> ANSWERS = new TreeMap<>();
    private static final String[] WORDS = {"a", "b", "elm", "oak", "ash", "set", "left", "longname"};

    private final Random random;
    private final RunSayer x = new RunSayer();
    private final Model model = new Model();
    private final Deque<String> last = new ArrayDeque<>();
    private final long seed;
    private final int spread, feetOf;
    private int calls, limit = CALLS;
    private boolean failed;

    private ModelTest(long seed) {
        this.seed = seed;
        random = new Random(seed);
        spread = 1 + random.nextInt(4);
        feetOf = random.nextInt(3);
    }

    private static Map<String, Method> methods(Class<?> type) {
        Map<String, Method> all = new HashMap<>();
        for (Method m : type.getDeclaredMethods()) {
            Method was = all.get(m.getName());
            if (was == null || was.getParameterCount() < m.getParameterCount()) {
                all.put(m.getName(), m);
            }
        }
        return all;
    }

    public static void main(String[] args) throws Exception {
        int runs = args.length > 1 ? Integer.parseInt(args[1]) : 1200;
        long first = args.length > 2 ? Long.parseLong(args[2]) : 1;
        int wrong = 0;
        for (long seed = first; seed < first + runs && wrong < 3; seed++) {
            ModelTest test = new ModelTest(seed);
            if (seed % 100 == 0) {
                test.playFull();
            } else {
                test.play();
            }
            wrong += test.failed ? 1 : 0;
        }
        if (args.length > 3) {
            ANSWERS.forEach((k, v) -> System.out.println(k + " " + v));
        }
        System.out.println("ModelTest: " + runs + " runs, " + wrong + " not alike");
        if (wrong != 0) {
            System.exit(1);
        }
    }

    private static Object[] fit(Method m, long[] args) {
        Object[] fitted = new Object[args.length];
        for (int i = 0; i < args.length; i++) {
            fitted[i] = m.getParameterTypes()[i] == long.class ? (Object) args[i] : (Object) (int) args[i];
        }
        return fitted;
    }

    private long call(String name, long... args) throws Exception {
        if (calls >= limit || failed) {
            return 0;
        }
        calls++;
        Method ours = OURS.get(name), theirs = THEIRS.get(name);
        long want = ((Number) theirs.invoke(model, fit(theirs, args))).longValue();
        StringBuilder told = new StringBuilder(name).append('(');
        for (int i = 0; i < args.length; i++) {
            told.append(i == 0 ? "" : ", ").append(args[i]);
        }
        told.append(") due ").append(want);
        last.addLast(told.toString());
        if (last.size() > 40) {
            last.removeFirst();
        }
        String kind = want >= 0 ? want == 0 ? "0" : "+" : want < -1000 ? "-1000.." + (-want % 10) : want <= -100 ? "-100.." : "" + want;
        ANSWERS.merge(name + " " + kind, 1, Integer::sum);
        long got;
        try {
            got = ((Number) ours.invoke(x, fit(ours, args))).longValue();
        } catch (java.lang.reflect.InvocationTargetException e) {
            e.getCause().printStackTrace(System.out);
            got = Long.MIN_VALUE;
        }
        if (got != want) {
            failed = true;
            last.forEach(System.out::println);
            System.out.println("seed " + seed + ", call " + calls + " answered " + got);
        }
        return want;
    }

    // ---- arguments: mostly good ones, some at the edge, few far off

    private int below(int n) {
        int by = random.nextInt(60);
        if (by == 0) {
            return -1;
        }
        if (by == 1) {
            return n;
        }
        if (by == 2) {
            return random.nextInt();
        }
        return n <= 0 ? 0 : random.nextInt(n);
    }

    private int between(int least, int most) {
        int by = random.nextInt(60);
        if (by < 6) {
            return least - 1 + by / 3 * (most - least + 1) + by % 3 % 2;
        }
        return by == 6 ? random.nextInt() : least + random.nextInt(most - least + 1);
    }

    private int junction() {
        return below(model.junctions.size());
    }

    private int way() {
        return below(model.ways.size());
    }

    private int leg() {
        return below(2 * model.ways.size());
    }

    private int door() {
        return below(model.doors.size());
    }

    private int hour() {
        int[] edges = {3, 4, 5, 6, 7, 8, 9, 10, 16, 17, 21, 22};
        return random.nextInt(3) == 0 ? between(0, 23) : edges[random.nextInt(edges.length)];
    }

    private int day() {
        return random.nextInt(3) == 0 ? between(0, 299) : between(0, Math.min(299, model.today + 3));
    }

    private int known() {
        return between(0, model.today);
    }

    private int follower(int e) {
        if (e < 0 || e >= 2 * model.ways.size() || random.nextInt(10) == 0) {
            return leg();
        }
        List<Integer> all = model.followers(e);
        return all.isEmpty() ? leg() : all.get(random.nextInt(all.size()));
    }

    private static long pack(String text) {
        long w = 0;
        for (int i = 0; i < text.length(); i++) {
            w = w << 8 | text.charAt(i);
        }
        return w;
    }

    private long word() {
        if (random.nextInt(25) == 0) {
            return random.nextBoolean() ? random.nextLong() : pack("a") << random.nextInt(64);
        }
        return pack(WORDS[random.nextInt(WORDS.length)]);
    }

    private int feet() {
        return feetOf == 0 ? 10 + 10 * random.nextInt(2) : feetOf == 1 ? 2 + random.nextInt(9) : between(2, 999);
    }

    // ---- a run of calls

    private void play() throws Exception {
        int junctions = new int[] {2, 3, 4, 6, 9, 24, 30}[random.nextInt(7)];
        int ways = new int[] {3, 6, 10, 16, 41}[random.nextInt(5)];
        if (random.nextInt(40) == 0) {
            call("cost", below(2));
        }
        for (int i = 0; i < junctions; i++) {
            tellJunction();
        }
        for (int i = 0; i < ways; i++) {
            tellWay();
        }
        int told = model.ways.size() * 2 / 3 + random.nextInt(10);
        for (int i = 0; i < told; i++) {
            call("name", random.nextInt(9) == 0 || model.ways.isEmpty() ? way() : i % model.ways.size(), word());
        }
        for (int i = 0; i < 2 + random.nextInt(5); i++) {
            tellDoor();
        }
        int flavour = random.nextInt(6);
        for (int i = 0; i < limit && calls < limit && !failed; i++) {
            step(flavour);
        }
    }

    /** Every table is filled to its end first; two junctions have all ways, so that each turn looks back. */
    private void playFull() throws Exception {
        limit = 2000;
        for (int i = 0; i < 26; i++) {
            call("junction", i, 50, i / 20);
        }
        for (int i = 0; i < 41; i++) {
            call("way", 0, 0, 1, 20 + random.nextInt(3), 0);
        }
        for (int i = 0; i < 61; i++) {
            call("name", i % 40, 'a' + i % 40 % 26);
        }
        for (int i = 0; i < 9; i++) {
            call("door", i < 5 ? i : 20, 3 + random.nextInt(9), i % 2);
        }
        for (int r = 0; r < 11; r++) {
            StringBuilder text = new StringBuilder("leave up");
            int last = 0;
            for (int i = 1; i <= 20; i++) {
                int way = i == 20 ? 20 : (last + 1 + random.nextInt(18)) % 20;
                text.append(" left ").append((char) ('a' + way));
                last = way;
            }
            feed(text + (random.nextBoolean() ? " set left" : " set right"));
            call("say", 0, 5 + random.nextInt(3), 6);
            call("wipe");
        }
        for (int i = 0; i < 41; i++) {
            call("shut", 30 + random.nextInt(10), random.nextInt(3), 3 + random.nextInt(297));
            int e = random.nextInt(60);
            call("ban", e, follower(e), 24, 1 + random.nextInt(127));
        }
        for (int p = 0; p < 5; p++) {
            call("pupil", 1 + random.nextInt(30));
            for (int r = 0; r < 10; r++) {
                call("ride", p, r);
            }
            call("knows", p, 0);
            call("plan", p, 1 + 2 + 4 + 8, 4, 60);
        }
        for (int i = 0; i < 7; i++) {
            feed("take " + i + " if wrong=" + i % 2 + "&over>0&turns>2");
            call("rule");
            call("wipe");
        }
        for (int i = 0; i < 25; i++) {
            call("ask", i % 4, i % 8, (i + 1 + i / 8) % 8, 6);
            call("examTold", i, 5);
        }
        for (int i = 0; i < 300 && !failed; i++) {
            step(i % 6);
        }
    }

    private void tellJunction() throws Exception {
        int wide = 99 / (spread + 2);
        if (random.nextInt(3) == 0) {
            call("junction", between(0, 99), between(0, 99), between(0, 1));
        } else {
            call("junction", wide * random.nextInt(spread + 2), wide * random.nextInt(spread + 2), random.nextInt(4) / 3);
        }
    }

    private void tellWay() throws Exception {
        int kind = random.nextInt(3) == 0 ? between(0, 5) : random.nextInt(2);
        call("way", kind, junction(), junction(), feet(), random.nextInt(12) == 0 ? between(0, 1) : random.nextInt(6) / 5);
    }

    private void tellDoor() throws Exception {
        int w = way();
        int most = w >= 0 && w < model.ways.size() ? model.ways.get(w).feet() - 1 : 9;
        call("door", w, between(1, most), between(0, 1));
    }

    private void step(int flavour) throws Exception {
        int by = random.nextInt(flavour == 0 ? 12 : flavour == 1 ? 20 : flavour == 2 ? 28 : 36);
        switch (random.nextInt(4) == 0 ? by : flavour == 3 ? 20 + random.nextInt(16) : by) {
            case 0 -> tellCity();
            case 1 -> tellWay();
            case 2 -> askCity();
            case 3 -> call("shut", way(), day(), between(0, 300));
            case 4 -> tellBan();
            case 5 -> findBest();
            case 6 -> findBest();
            case 7 -> findThenRow();
            case 8 -> prove();
            case 9 -> host();
            case 10 -> call("count", between(0, 13));
            case 11 -> call("pass", random.nextInt(8) == 0 ? between(1, 100) : 1 + random.nextInt(4));
            case 12, 13, 14, 15, 16 -> sayRun();
            case 17 -> call("run", below(model.runs.size()), between(-1, 4));
            case 18 -> call("runTold", below(model.runs.size()), between(0, 5));
            case 19 -> call("pupil", between(1, random.nextBoolean() ? 30 : 3));
            case 20, 21 -> ride();
            case 22 -> askPupil();
            case 23 -> wouldSay();
            case 24 -> plan();
            case 25 -> call("parting", random.nextInt(8) == 0 ? random.nextInt(20) - 2 : (1 << model.pupils.size()) - 1, hour());
            case 26 -> call("parting", below(1 << model.pupils.size()), hour());
            case 27, 28 -> tellRule();
            case 29, 30 -> call("ask", below(model.pupils.size()), door(), door(), hour());
            case 31 -> call("examTold", below(model.exams.size()), between(0, 7));
            case 32, 33 -> call("appeal", below(model.exams.size()));
            case 34 -> call("examTold", below(model.exams.size()), 5);
            default -> sayRun();
        }
    }

    private void tellCity() throws Exception {
        switch (random.nextInt(7)) {
            case 0 -> tellJunction();
            case 1 -> call("ring", junction(), between(0, 1));
            case 2 -> tellDoor();
            case 3 -> call("name", way(), word());
            case 4 -> call("taken", below(model.things.size()), between(0, 8));
            case 5 -> call("about", way(), between(0, 6), hour());
            default -> call("junctions", below(4), below(3), below(10), below(8));
        }
    }

    private void askCity() throws Exception {
        switch (random.nextInt(5)) {
            case 0 -> call("answers", way(), word(), known());
            case 1 -> call("wasShut", way(), day(), known());
            case 2 -> call("drivable", leg(), day(), hour(), known());
            default -> {
                int e = leg();
                call("turn", e, follower(e));
            }
        }
    }

    private void tellBan() throws Exception {
        int e = leg(), f = follower(e);
        if (random.nextBoolean() && model.found.legs().size() > 1) {
            int i = random.nextInt(model.found.legs().size() - 1);
            e = model.found.legs().get(i);
            f = model.found.legs().get(i + 1);
        }
        int hours = random.nextInt(3) == 0 ? 100 * between(0, 23) + between(1, 24) : random.nextBoolean() ? 24 : 724;
        call("ban", e, f, hours, random.nextBoolean() ? 127 : between(1, 127));
    }

    private void findBest() throws Exception {
        call("best", door(), door(), hour(), between(0, 1));
        tellFound();
    }

    private void findThenRow() throws Exception {
        call("bestOn", door(), door(), random.nextInt(30) == 0 ? random.nextInt() : 1000 * day() + known(), hour(), between(0, 1));
        tellFound();
    }

    private void tellFound() throws Exception {
        call("cost", between(0, 1));
        call("cost", random.nextInt(2));
        for (int i = 0; i < model.found.legs().size(); i++) {
            if (model.found.legs().size() < 5 || random.nextInt(3) > 0) {
                call("leg", i);
            }
        }
        if (random.nextInt(9) == 0) {
            call("leg", below(model.found.legs().size()));
        }
    }

    private void prove() throws Exception {
        int a = door(), b = door(), hour = hour();
        call("prove", a, b, hour);
        int size = model.sheets[0] == null ? 0 : model.sheets[0].cells.length;
        for (int i = 0; i < 3; i++) {
            call("read", 0, below(size));
        }
        if (random.nextInt(3) > 0) {
            call("bound", a, b, hour, 0);
        }
        if (random.nextInt(3) == 0) {
            call("ban", leg(), leg(), 24, 127);
            call("way", 0, junction(), junction(), 2, 0);
            call("bound", a, b, hour, below(4));
        }
        for (int i = 0; i < random.nextInt(4); i++) {
            int at = below(size), was = model.read(0, at);
            int[] values = {was - 1, was + 1, 0, -1, -2, 2147483647, 2147483000, was / 2, random.nextInt()};
            call("cell", 0, at, values[random.nextInt(values.length)]);
            call("bound", a, random.nextInt(9) == 0 ? door() : b, hour, random.nextInt(9) == 0 ? below(4) : 0);
        }
        if (random.nextInt(5) == 0) {
            call("sheet", 1, 2, 2 * model.ways.size());
            call("bound", door(), door(), hour(), 1);
        }
        if (random.nextInt(5) == 0) {
            call("copy", 0, 0, 1, 0, size);
            call("bound", door(), b, hour, 1);
        }
    }

    private void host() throws Exception {
        int s = below(4);
        switch (random.nextInt(7)) {
            case 0, 1 -> call("sheet", s, random.nextInt(4) == 0 ? -1 : below(3), between(0, 100));
            case 2, 3 -> call("cell", s, below(30), random.nextBoolean() ? random.nextInt() : random.nextInt(99));
            case 4 -> call("copy", s, below(20), random.nextBoolean() ? s : below(4), below(20), below(20));
            case 5 -> call("junctions", s, below(3), below(20), between(0, 30));
            default -> call("read", s, below(40));
        }
        call("read", below(4), below(30));
    }

    // ---- the tape

    private void feed(String text) throws Exception {
        int at = 0;
        while (at < text.length()) {
            int n = Math.min(text.length() - at, random.nextInt(9) == 0 ? 1 + random.nextInt(8) : 8);
            String part = text.substring(at, at + n);
            long w = pack(part);
            if (n < 8 && random.nextInt(4) == 0) {
                w |= random.nextLong() << (8 * n);
            }
            call("feed", w, n);
            at += n;
        }
    }

    private void sayRun() throws Exception {
        if (model.doors.size() < 2) {
            tellDoor();
            return;
        }
        int a = door(), b = door(), hour = random.nextInt(5) == 0 ? hour() : 6 + random.nextInt(2);
        boolean good = a >= 0 && a < model.doors.size() && b >= 0 && b < model.doors.size() && a != b;
        List<Integer> legs = new ArrayList<>();
        if (good && hour >= 0 && hour < 24 && random.nextInt(5) > 0) {
            Model.Law law = random.nextBoolean() ? model.city(model.today, hour, model.today) : anyLaw();
            legs.addAll(model.bestRow(a, b, hour, random.nextBoolean(), law).legs());
        } else if (a >= 0 && a < model.doors.size()) {
            legs.add(2 * model.doors.get(a).way() + random.nextInt(2));
            for (int i = 0; i < random.nextInt(5); i++) {
                List<Integer> on = model.followers(legs.get(i));
                if (on.isEmpty()) {
                    break;
                }
                legs.add(on.get(random.nextInt(on.size())));
            }
        }
        String text = speech(legs, good ? b : 0);
        if (random.nextInt(4) == 0) {
            text = spoil(text);
        }
        if (text.length() > 48 && random.nextInt(4) > 0) {
            return;
        }
        feed(text);
        call("say", a, b, hour);
        if (random.nextInt(30) == 0) {
            call("wipe");
        }
        if (!model.tape.isEmpty() && random.nextInt(3) == 0) {
            call("wipe");
        }
    }

    private Model.Law anyLaw() {
        return new Model.Law() {
            public boolean leg(int e) { return true; }
            public boolean turn(int e, int f) { return true; }
        };
    }

    private String speech(List<Integer> legs, int b) {
        StringBuilder text = new StringBuilder(blanks(0)).append("leave").append(blanks(1));
        text.append(legs.isEmpty() || legs.get(0) % 2 == 0 ? "up" : "down");
        for (int i = 1; i < legs.size(); i++) {
            int turned = model.turned(legs.get(i - 1), legs.get(i));
            if (random.nextInt(30) == 0) {
                turned = random.nextInt(12);
            }
            int way = legs.get(i) / 2;
            String name = WORDS[random.nextInt(WORDS.length)];
            for (Model.Name n : model.names) {
                if (n.way() == way && random.nextInt(8) > 0) {
                    name = n.word();
                }
            }
            text.append(blanks(1)).append(turned == 0 ? "left" : turned == 1 ? "right" : turned == 2 ? "ahead" : "comply");
            if (turned > 2) {
                text.append(blanks(0)).append(turned - 2).append(blanks(0));
            } else {
                text.append(blanks(1));
            }
            text.append(name);
        }
        boolean up = legs.isEmpty() || legs.get(legs.size() - 1) % 2 == 0;
        boolean left = up == (model.doors.get(b).side() == 0) != (random.nextInt(12) == 0);
        return text.append(blanks(1)).append("set").append(blanks(1)).append(left ? "left" : "right").append(blanks(0)).toString();
    }

    private String blanks(int least) {
        return " ".repeat(least + (random.nextInt(12) == 0 ? 1 + random.nextInt(2) : 0));
    }

    private String spoil(String text) {
        int at = random.nextInt(text.length() + 1);
        String signs = " abelftup19=&<>A\u00e9\u0000";
        char sign = signs.charAt(random.nextInt(signs.length()));
        return switch (random.nextInt(4)) {
            case 0 -> text.substring(0, at);
            case 1 -> text.substring(0, at) + sign + text.substring(at);
            case 2 -> at < text.length() ? text.substring(0, at) + text.substring(at + 1) : text + sign;
            default -> at < text.length() ? text.substring(0, at) + sign + text.substring(at + 1) : text;
        };
    }

    private void tellRule() throws Exception {
        String[] fields = {"said", "wrong", "over", "turns", "feet", "day"};
        StringBuilder text = new StringBuilder("take ").append(random.nextInt(random.nextInt(4) == 0 ? 10000 : 40));
        int tests = random.nextInt(4);
        for (int i = 0; i < tests; i++) {
            text.append(i == 0 ? " if " : "&");
            int field = random.nextInt(6);
            int n = random.nextInt(field < 2 ? 2 : field == 3 ? 5 : random.nextBoolean() ? 10 : 100);
            text.append(fields[field]).append("=<>".charAt(random.nextInt(3))).append(n);
        }
        feed(random.nextInt(3) == 0 ? spoil(text.toString()) : text.toString());
        call("rule");
        if (!model.tape.isEmpty()) {
            call("wipe");
        }
    }

    // ---- pupils

    private void ride() throws Exception {
        if (random.nextInt(12) == 0 || model.pupils.isEmpty()) {
            call("pupil", between(1, 5));
        }
        call("ride", below(model.pupils.size()), below(model.runs.size()));
    }

    private void askPupil() throws Exception {
        int p = below(model.pupils.size());
        int[] ahead = {0, 1, 5, 40, 300, 2001 - model.today};
        int day = model.today + random.nextInt(ahead[random.nextInt(ahead.length)] + 1) - random.nextInt(20) / 19;
        if (random.nextBoolean()) {
            call("knows", p, day);
            return;
        }
        int e = leg();
        call("holds", p, e, follower(e), day);
        if (!model.runs.isEmpty()) {
            List<Integer> legs = model.runs.get(random.nextInt(model.runs.size())).legs();
            if (legs.size() > 1) {
                int i = random.nextInt(legs.size() - 1);
                call("holds", p, legs.get(i), legs.get(i + 1), day);
            }
        }
    }

    private void wouldSay() throws Exception {
        int a = door(), b = door();
        if (!model.runs.isEmpty() && random.nextBoolean()) {
            Model.Said run = model.runs.get(random.nextInt(model.runs.size()));
            a = run.a();
            b = run.b();
        }
        call("wouldSay", below(model.pupils.size()), a, b, hour());
        tellFound();
        if (random.nextBoolean()) {
            call("ask", below(model.pupils.size()), a, b, hour());
            call("examTold", model.exams.size() - 1, 5);
        }
    }

    private void plan() throws Exception {
        int set = random.nextInt(20) == 0 ? random.nextInt() : random.nextInt((1 << model.runs.size()) + 1);
        if (Integer.bitCount(set) > 4 && random.nextInt(6) > 0) {
            set &= random.nextInt();
        }
        int n = between(1, random.nextInt(3) == 0 ? 4 : 2);
        int day = model.today + n - 1 + random.nextInt(new int[] {1, 3, 12, 40}[random.nextInt(4)]) - random.nextInt(30) / 29;
        call("plan", below(model.pupils.size()), set, n, random.nextInt(20) == 0 ? between(0, 2000) : day);
        for (int i = 0; i < 4; i++) {
            call("planned", i);
        }
        if (random.nextInt(5) == 0) {
            call("planned", below(5));
        }
    }
}
