import java.lang.reflect.Method;
import java.nio.file.Files;
import java.nio.file.Path;
import java.util.regex.Matcher;
import java.util.regex.Pattern;

/** Each call that README.md shows, in its order on one object, answers what stands behind it. */
final class ReadmeTest {
    private static final Pattern CALL = Pattern.compile("city\\.(\\w+)\\((.*)\\); +// (-?[0-9]+).*");
    private static final Check check = new Check("ReadmeTest");

    public static void main(String[] args) throws Exception {
        RunSayer city = new RunSayer();
        int shown = 0;
        for (String line : Files.readAllLines(Path.of(args.length > 0 ? args[0] : ".", "README.md"))) {
            if (!line.startsWith("city.")) {
                continue;
            }
            Matcher m = CALL.matcher(line);
            check.isTrue(line + " shows its answer", m.matches());
            if (m.matches()) {
                shown++;
                check.due(line, answer(city, m.group(1), m.group(2).split(", ")), Long.parseLong(m.group(3)));
            }
        }
        check.isTrue("calls are shown", shown > 0);
        check.end();
    }

    private static long answer(RunSayer city, String name, String[] numbers) throws Exception {
        for (Method m : RunSayer.class.getMethods()) {
            if (m.getName().equals(name) && m.getParameterCount() == numbers.length) {
                Object[] args = new Object[numbers.length];
                for (int i = 0; i < args.length; i++) {
                    long n = Long.decode(numbers[i].replace("L", ""));
                    args[i] = m.getParameterTypes()[i] == long.class ? (Object) n : (Object) (int) n;
                }
                return ((Number) m.invoke(city, args)).longValue();
            }
        }
        return Long.MIN_VALUE;
    }
}
