import java.io.IOException;
import java.lang.reflect.Method;
import java.nio.file.Files;
import java.nio.file.Path;
import java.util.regex.Matcher;
import java.util.regex.Pattern;

/** The calls that README.md shows answer what it says behind them. */
public final class ReadmeTest {
    private static final Pattern CALL = Pattern.compile("x\\.(\\w+)\\(([^)]*)\\);\\s+// (true|false|-?\\d+)\\b.*");
    private static final Due DUE = new Due();

    public static void main(String[] args) throws IOException, ReflectiveOperationException {
        EightParts x = new EightParts();
        int shown = 0;
        for (String line : Files.readAllLines(Path.of("README.md"))) {
            Matcher call = CALL.matcher(line);
            if (call.matches()) {
                shown++;
                hold(x, line, call);
            } else {
                DUE.is("that an answer can be read in " + line, line.startsWith("x."), false);
            }
        }
        DUE.is("that calls are shown, " + shown, shown > 20, true);
        DUE.end();
    }

    private static void hold(EightParts x, String line, Matcher call) throws ReflectiveOperationException {
        String[] places = call.group(2).isEmpty() ? new String[0] : call.group(2).split(", ");
        for (Method method : EightParts.class.getMethods()) {
            if (method.getName().equals(call.group(1)) && method.getParameterCount() == places.length) {
                Object got = method.invoke(x, arguments(method, places));
                DUE.is(line + " (it answered " + got + ")", got.toString().equals(call.group(3)), true);
                return;
            }
        }
        DUE.is("that there is a call as in " + line, false, true);
    }

    private static Object[] arguments(Method method, String[] places) {
        Object[] to = new Object[places.length];
        for (int k = 0; k < to.length; k++) {
            boolean asked = method.getParameterTypes()[k] == boolean.class;
            to[k] = asked ? (Object) Boolean.valueOf(places[k]) : (Object) Integer.decode(places[k]);
        }
        return to;
    }
}
