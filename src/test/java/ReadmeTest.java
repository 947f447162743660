import java.lang.reflect.InvocationTargetException;
import java.lang.reflect.Method;
import java.nio.file.Files;
import java.nio.file.Path;
import java.util.HashMap;
import java.util.Map;
import java.util.regex.Matcher;
import java.util.regex.Pattern;

/** Does what README.md shows, line by line: each comment must begin with the call's answer. */
public final class ReadmeTest {
    private static final Pattern BLOCK = Pattern.compile("(?s)```java\n(.*?)```");
    private static final Pattern MADE = Pattern.compile("TrackChamber (\\w) = new TrackChamber\\(\\);( +//.*)?");
    private static final Pattern FED =
        Pattern.compile("for \\(char c : \"(.*)\"\\.toCharArray\\(\\)\\) (\\w)\\.feed\\(c\\);");
    private static final Pattern ASKED = Pattern.compile("(\\w)\\.(\\w+)\\((.*)\\); +// (-?\\d+|[A-Z]+)(:.*)?");
    private static final Map<String, Long> NAMED = Map.of("BAD", -1L, "NOT", -2L, "FULL", -3L, "STATE", -5L,
        "NO", Long.MIN_VALUE);

    private final Map<String, TrackChamber> chambers = new HashMap<>();

    private ReadmeTest() {
    }

    public static void main(String[] args) throws Exception {
        ReadmeTest test = new ReadmeTest();
        Matcher block = BLOCK.matcher(Files.readString(Path.of("README.md")));
        while (block.find()) {
            for (String line : block.group(1).split("\n")) {
                test.follow(line);
            }
        }
        if (Check.asked() < 30) {
            Check.fault("README.md shows " + Check.asked() + " calls");
        }
        Check.end();
    }

    private void follow(String line) throws Exception {
        Matcher made = MADE.matcher(line);
        Matcher fed = FED.matcher(line);
        Matcher asked = ASKED.matcher(line);
        if (made.matches()) {
            chambers.put(made.group(1), new TrackChamber());
        } else if (fed.matches()) {
            Check.feed(chambers.get(fed.group(2)), fed.group(1));
        } else if (asked.matches()) {
            String told = asked.group(4);
            long want = NAMED.containsKey(told) ? NAMED.get(told) : Long.parseLong(told);
            Check.due(line, answer(chambers.get(asked.group(1)), asked.group(2), asked.group(3)), want);
        } else {
            Check.fault("README.md shows what is no call with its answer: " + line);
        }
    }

    private static long answer(TrackChamber x, String name, String numbers)
        throws IllegalAccessException, InvocationTargetException {
        String[] told = numbers.isEmpty() ? new String[0] : numbers.split(", ");
        for (Method m : TrackChamber.class.getMethods()) {
            if (m.getName().equals(name) && m.getParameterCount() == told.length) {
                Object[] given = new Object[told.length];
                for (int i = 0; i < told.length; i++) {
                    boolean isInt = m.getParameterTypes()[i] == int.class;
                    given[i] = isInt ? (Object) Integer.valueOf(told[i]) : (Object) Long.valueOf(told[i]);
                }
                return ((Number) m.invoke(x, given)).longValue();
            }
        }
        throw new IllegalArgumentException("no such call: " + name + "(" + numbers + ")");
    }
}
