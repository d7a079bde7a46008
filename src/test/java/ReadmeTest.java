import java.io.IOException;
import java.lang.reflect.Method;
import java.nio.file.Files;
import java.nio.file.Paths;
import java.util.regex.Matcher;
import java.util.regex.Pattern;

/** The calls in README.md answer what stands behind them there. */
public final class ReadmeTest {
    private static final String README = "README.md";
    private static final String NEW_OBJECT = "WatchSleep wall = new WatchSleep();";
    private static final Pattern BLOCK = Pattern.compile("(?s)```java\n(.*?)```");
    private static final Pattern CALL = Pattern.compile("wall\\.(\\w+)\\((.*?)\\);\\s*// (-?\\d+)(:.*)?");
    private static final Due due = new Due("ReadmeTest");

    public static void main(String[] args) throws IOException, ReflectiveOperationException {
        Matcher block = BLOCK.matcher(new String(Files.readAllBytes(Paths.get(README)), "UTF-8"));
        int calls = 0;
        while (block.find()) {
            calls += follow(block.group(1));
        }
        due.isTrue("there are calls in " + README, calls > 0);
        due.end();
    }

    /** How many calls there were. */
    private static int follow(String block) throws ReflectiveOperationException {
        WatchSleep wall = null;
        int calls = 0;
        for (String line : block.split("\n")) {
            Matcher call = CALL.matcher(line);
            if (line.startsWith(NEW_OBJECT)) {
                wall = new WatchSleep();
            } else if (wall != null && call.matches()) {
                due.is(line, answer(wall, call.group(1), call.group(2)), Long.parseLong(call.group(3)));
                calls++;
            } else {
                due.isTrue("a call with its answer: " + line, line.isEmpty());
            }
        }
        return calls;
    }

    private static long answer(WatchSleep wall, String name, String numbers) throws ReflectiveOperationException {
        String[] given = numbers.isEmpty() ? new String[0] : numbers.split(", ");
        for (Method m : WatchSleep.class.getMethods()) {
            if (m.getName().equals(name) && m.getParameterCount() == given.length) {
                Object[] values = new Object[given.length];
                for (int i = 0; i < given.length; i++) {
                    long v = number(given[i]);
                    values[i] = m.getParameterTypes()[i] == long.class ? (Object) v : (Object) (int) v;
                }
                return ((Number) m.invoke(wall, values)).longValue();
            }
        }
        due.isTrue("a call of the class: " + name, false);
        return 0;
    }

    private static long number(String given) {
        if (given.charAt(0) == '\'') {
            return given.charAt(1);
        }
        return Long.decode(given.replace("L", ""));
    }
}
