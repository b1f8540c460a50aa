import java.lang.reflect.Field;
import java.lang.reflect.Method;
import java.lang.reflect.Modifier;
import java.nio.file.Files;
import java.nio.file.Path;
import java.util.ArrayDeque;
import java.util.ArrayList;
import java.util.Collections;
import java.util.Deque;
import java.util.IdentityHashMap;
import java.util.List;
import java.util.Set;
import java.util.TreeSet;
import java.util.regex.Matcher;
import java.util.regex.Pattern;

/** The face of the document, the rules of LANGUAGE.md that can be seen from outside, and the room that it takes. */
final class LanguageTest {
    private static final Check check = new Check("LanguageTest");
    private static final int ROOM_OBJECTS = 600_000, ROOM_ELEMENTS = 7_300_000;
    private static final String FACE = """
            junction int int int
            ring int int
            way int int int int int
            door int int int
            about int int int
            taken int int
            name int long
            answers int long int
            shut int int int
            wasShut int int int
            ban int int int int
            pass int
            turn int int
            drivable int int int int
            best int int int int
            bestOn int int int int int
            leg int
            cost int
            prove int int int
            bound int int int int
            feed long int
            wipe
            say int int int
            run int int
            runTold int int
            pupil int
            ride int int
            holds int int int int
            knows int int
            wouldSay int int int int
            plan int int int int
            planned int
            parting int int
            rule
            ask int int int int
            examTold int int
            appeal int
            count int
            sheet int int int
            cell int int int
            read int int
            copy int int int int int
            junctions int int int int
            """;

    public static void main(String[] args) throws Exception {
        String source = Files.readString(Path.of(args.length > 0 ? args[0] : ".", "src/main/java/RunSayer.java"));
        face();
        constants();
        inside();
        words(bare(source));
        methodLengths(bare(source));
        room();
        noObjectMade();
        check.end();
    }

    private static void face() {
        Set<String> due = new TreeSet<>(List.of(FACE.strip().split("\n"))), got = new TreeSet<>();
        Set<String> names = new TreeSet<>();
        for (Method m : RunSayer.class.getDeclaredMethods()) {
            StringBuilder told = new StringBuilder(m.getName());
            for (Class<?> type : m.getParameterTypes()) {
                told.append(' ').append(type.getName());
            }
            if (Modifier.isPublic(m.getModifiers())) {
                got.add(told.toString());
                names.add(m.getName());
                Class<?> returns = m.getName().equals("cost") ? long.class : int.class;
                check.isTrue("what " + told + " returns", m.getReturnType() == returns && !Modifier.isStatic(m.getModifiers()));
            }
        }
        check.isTrue("the face is " + due + ", and it is " + got, due.equals(got));
        for (Method m : RunSayer.class.getDeclaredMethods()) {
            check.isTrue(m + " is public or private", Modifier.isPublic(m.getModifiers()) || Modifier.isPrivate(m.getModifiers()));
            check.isTrue(m + " has a name of its own", Modifier.isPublic(m.getModifiers()) || !names.contains(m.getName()));
        }
        check.due("constructors", RunSayer.class.getDeclaredConstructors().length, 1);
        check.due("public constructors", RunSayer.class.getConstructors().length, 1);
        check.isTrue("final", Modifier.isFinal(RunSayer.class.getModifiers()));
        check.due("methods", names.size(), 43);
    }

    private static void constants() {
        Set<String> open = new TreeSet<>();
        for (Field f : RunSayer.class.getDeclaredFields()) {
            if (Modifier.isPublic(f.getModifiers())) {
                open.add(f.getType() + " " + f.getName());
                check.isTrue(f + " is a constant", Modifier.isStatic(f.getModifiers()) && Modifier.isFinal(f.getModifiers()));
            } else {
                check.isTrue(f + " is private", Modifier.isPrivate(f.getModifiers()));
            }
        }
        check.isTrue("constants " + open, open.equals(Set.of("int NONE", "int BAD", "int STATE", "int FULL", "long NO")));
        check.due("NONE", RunSayer.NONE, -1);
        check.due("BAD", RunSayer.BAD, -2);
        check.due("STATE", RunSayer.STATE, -3);
        check.due("FULL", RunSayer.FULL, -4);
        check.due("NO", RunSayer.NO, -4611686018427387904L);
    }

    private static List<Class<?>> classes() {
        List<Class<?>> all = new ArrayList<>(List.of(RunSayer.class.getDeclaredClasses()));
        all.add(RunSayer.class);
        return all;
    }

    private static void inside() {
        check.isTrue("some twelve classes", classes().size() <= 13);
        for (Class<?> c : classes()) {
            int fields = 0;
            for (Field f : c.getDeclaredFields()) {
                boolean still = Modifier.isStatic(f.getModifiers());
                fields += still ? 0 : 1;
                check.isTrue(f + ": a static one is final", !still || Modifier.isFinal(f.getModifiers()));
            }
            check.isTrue(c + " has " + fields + " fields", fields <= 20);
            for (Method m : c.getDeclaredMethods()) {
                check.isTrue(m + ": seven parameters at most", m.getParameterCount() <= 7);
                check.isTrue(m + " has a name of its own", c == RunSayer.class || !FACE.matches("(?s)(.*\n)?" + m.getName() + "[ \n].*"));
            }
            if (c != RunSayer.class) {
                check.isTrue(c + " is static", Modifier.isStatic(c.getModifiers()));
                check.isTrue(c + " is not open", !Modifier.isPublic(c.getModifiers()) && !Modifier.isProtected(c.getModifiers()));
            }
        }
    }

    /** The source with no comments and no texts. */
    private static String bare(String source) {
        return Pattern.compile("/\\*.*?\\*/|//[^\n]*|\"[^\"\n]*\"|'.'", Pattern.DOTALL).matcher(source).replaceAll("");
    }

    private static void words(String source) {
        String[] banned = {"\\bthrow\\b", "\\btry\\b", "\\bcatch\\b", "\\bsynchronized\\b", "\\bassert\\b", "->", "::",
            "\\bimport\\b", "\\bpackage\\b", "Exact\\b", "\\bprotected\\b", "\\bhashCode\\b", "\\bequals\\b", "\\btoString\\b",
            "\\bException\\b", "\\bRandom\\b", "\\bThread\\b", "\\bwhile \\(true\\)", "\\bvar\\b", "@"};
        for (String word : banned) {
            check.isTrue("no " + word, !Pattern.compile(word).matcher(source).find());
        }
        Set<String> library = new TreeSet<>();
        Matcher m = Pattern.compile("\\b(Math|Integer|Long|System|Arrays)\\.(\\w+)").matcher(source);
        while (m.find()) {
            library.add(m.group());
        }
        Set<String> may = Set.of("Math.max", "Math.min", "Math.abs", "Integer.bitCount", "System.arraycopy");
        check.isTrue("library: " + library, may.containsAll(library));
        check.isTrue("one sign a byte", source.chars().allMatch(c -> c < 128));
    }

    private static void methodLengths(String source) {
        int from = 0;
        String[] lines = source.split("\n");
        for (int i = 0; i < lines.length; i++) {
            if (lines[i].matches("\\s+.*\\) \\{") && !lines[i].matches("\\s*(\\}? ?else )?(if|for|while|switch) .*")) {
                from = i;
            }
            if (lines[i].matches("\\s*\\}")) {
                check.isTrue("the method at line " + from + " is short", i - from <= 60 || lines[i].length() == 1);
            }
        }
    }

    /** All objects that a new one holds on to, and their fields and elements. */
    private static void room() throws IllegalAccessException {
        Set<Object> seen = Collections.newSetFromMap(new IdentityHashMap<>());
        Deque<Object> open = new ArrayDeque<>(List.of(new RunSayer()));
        long elements = 0;
        while (!open.isEmpty()) {
            Object o = open.pop();
            if (!seen.add(o)) {
                continue;
            }
            if (o.getClass().isArray()) {
                int length = java.lang.reflect.Array.getLength(o);
                elements += length;
                for (int i = 0; i < length && !o.getClass().getComponentType().isPrimitive(); i++) {
                    open.push(java.lang.reflect.Array.get(o, i));
                }
                continue;
            }
            for (Field f : o.getClass().getDeclaredFields()) {
                if (Modifier.isStatic(f.getModifiers())) {
                    continue;
                }
                elements++;
                f.setAccessible(true);
                if (!f.getType().isPrimitive()) {
                    open.push(f.get(o));
                }
            }
        }
        System.out.println("LanguageTest: a new object is " + seen.size() + " objects with " + elements + " fields and elements");
        check.isTrue("a hundred new ones find room", seen.size() * 100L < ROOM_OBJECTS && elements * 100 < ROOM_ELEMENTS);
    }

    /** No call makes an object, so what a run takes does not grow with its calls. */
    private static void noObjectMade() {
        com.sun.management.ThreadMXBean bean =
                (com.sun.management.ThreadMXBean) java.lang.management.ManagementFactory.getThreadMXBean();
        long most = 0;
        for (int round = 0; round < 3; round++) {
            RunSayer x = Cities.square();
            long before = bean.getCurrentThreadAllocatedBytes();
            dearCalls(x);
            most = bean.getCurrentThreadAllocatedBytes() - before;
        }
        check.isTrue("bytes that calls made: " + most, most < 1024);
    }

    private static void dearCalls(RunSayer x) {
        for (int i = 0; i < 4; i++) {
            x.pupil(i + 1);
        }
        for (int i = 0; i < 60; i++) {
            x.best(0, 1, 6, i & 1);
            x.prove(0, 1, 6);
            x.bound(0, 1, 6, 0);
            x.feed(0x6C656176652075L, 7);
            x.feed(0x70L, 1);
            x.say(0, 1, 6);
            x.parting(15, 6);
            x.ride(i & 3, 0);
            x.plan(i & 3, 1, 4, 99);
            x.ask(i & 3, 0, 1, 6);
            x.appeal(i & 15);
            x.feed(0x74616B652031L, 6);
            x.rule();
            x.sheet(1, 2, 90);
            x.junctions(1, 2, 0, 30);
        }
    }
}
