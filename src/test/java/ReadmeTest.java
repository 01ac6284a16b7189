import java.lang.reflect.Method;
import java.lang.reflect.Modifier;
import java.nio.file.Files;
import java.nio.file.Path;
import java.util.Arrays;
import java.util.regex.Matcher;
import java.util.regex.Pattern;

/** README.md tells answers of calls: they are due just as those of other tests are. */
public final class ReadmeTest {
    private static final Pattern CALL = Pattern.compile("^table\\.(\\w+)\\(([^)]*)\\);\\s*// = (-?\\d+)");
    private static int wrong = 0;

    public static void main(String[] args) throws Exception {
        String readme = Files.readString(Path.of("README.md"));
        int calls = example(readme);
        tellsEveryCall(readme);
        System.out.println(calls + " calls of README.md, " + wrong + " not as due");
        if (wrong != 0 || calls == 0) {
            System.exit(1);
        }
    }

    private static void fault(String text) {
        wrong++;
        System.out.println(text);
    }

    /** Plays the example, line by line: how many calls it has. */
    private static int example(String readme) throws Exception {
        ShoeTable table = new ShoeTable();
        int calls = 0;
        for (String line : readme.split("\n")) {
            if (!line.startsWith("table.")) {
                continue;
            }
            calls++;
            Matcher m = CALL.matcher(line);
            if (!m.find()) {
                fault("README.md tells no answer of: " + line);
                continue;
            }
            long got = ask(table, m.group(1), m.group(2));
            if (got != Long.parseLong(m.group(3))) {
                fault("README.md: " + line + ": answered " + got);
            }
        }
        return calls;
    }

    private static long ask(ShoeTable table, String name, String numbers) throws Exception {
        Object[] given = numbers.isBlank() ? new Object[0]
            : Arrays.stream(numbers.split(",")).map(n -> Integer.valueOf(n.trim())).toArray();
        Class<?>[] kinds = new Class<?>[given.length];
        Arrays.fill(kinds, int.class);
        return ((Number) ShoeTable.class.getMethod(name, kinds).invoke(table, given)).longValue();
    }

    private static void tellsEveryCall(String readme) {
        for (Method m : ShoeTable.class.getDeclaredMethods()) {
            if (Modifier.isPublic(m.getModifiers()) && !readme.contains("| `" + m.getName() + "(")) {
                fault("README.md does not tell what " + m.getName() + " does");
            }
        }
    }
}
