import java.lang.reflect.Method;
import java.nio.file.Files;
import java.nio.file.Path;
import java.util.List;
import java.util.regex.Matcher;
import java.util.regex.Pattern;

/** The small run of calls that README.md shows, called on a new object: each must answer as README.md says. Argument: it. */
public final class Readme {
    // x.call(1, 'c');  // -2: words
    private static final Pattern CALL = Pattern.compile("^ {4}x\\.(\\w+)\\(([^()]*)\\); +// (-?\\d+)(: .*)?$");
    private static final int LEAST_CALLS = 20;

    private static int wrong;

    public static void main(String[] arguments) throws Exception {
        List<String> lines = Files.readAllLines(Path.of(arguments[0]));
        OrbitsWed x = new OrbitsWed();
        int calls = 0;
        for (String line : lines) {
            if (!line.startsWith("    x.")) continue;
            calls++;
            Matcher call = CALL.matcher(line);
            if (!call.matches()) fail("not a call with its answer: " + line);
            else hold(line, answer(x, call.group(1), call.group(2)), Long.parseLong(call.group(3)));
        }
        if (calls < LEAST_CALLS) fail("too small a run: " + calls + " calls");
        if (!lines.contains("    .ci/run")) fail("how to run the tests is not told");
        System.out.println(calls + " calls of README.md, " + wrong + " wrong");
        if (wrong != 0) System.exit(1);
    }

    private static void hold(String line, long got, long want) {
        if (got != want) fail("answered " + got + ": " + line.trim());
    }

    private static void fail(String what) {
        wrong++;
        System.out.println(what);
    }

    private static long answer(OrbitsWed x, String name, String told) throws Exception {
        String[] texts = told.isEmpty() ? new String[0] : told.split(", ");
        for (Method method : OrbitsWed.class.getMethods()) {
            if (!method.getName().equals(name) || method.getParameterCount() != texts.length) continue;
            Object[] values = new Object[texts.length];
            for (int i = 0; i < texts.length; i++) {
                long value = texts[i].startsWith("'") ? texts[i].charAt(1) : Long.parseLong(texts[i]);
                if (method.getParameterTypes()[i] == long.class) values[i] = value;
                else values[i] = (int) value;
            }
            return ((Number) method.invoke(x, values)).longValue();
        }
        throw new IllegalStateException("no such call: " + name + "(" + told + ")");
    }
}
