import java.lang.reflect.Method;
import java.lang.reflect.Modifier;
import java.util.ArrayList;
import java.util.Arrays;
import java.util.Comparator;
import java.util.List;
import java.util.Random;

/**
 * All promises at once: long runs of calls, made up by a fixed seed, answered by the program and by the
 * slow Model, with all slots held against each other now and then. Arguments: how many runs, the first seed.
 */
public final class ModelTest {
    /** What an object answers behind so many calls is free. */
    private static final int CALLS = 512;
    private static final int CALLS_TO_HOLD_ALL = 65;
    private static final int UNITS = 0;
    private static final int LISTED = 1;
    private static final int ANY = 2;
    private static final Due DUE = new Due();

    private final Random random;
    private final EightParts program = new EightParts();
    private final Model model = new Model();
    private final List<String> done = new ArrayList<>();
    private boolean agrees = true;

    private ModelTest(long seed) {
        random = new Random(seed);
    }

    public static void main(String[] args) throws ReflectiveOperationException {
        int runs = args.length > 0 ? Integer.parseInt(args[0]) : 150;
        long first = args.length > 1 ? Long.parseLong(args[1]) : 1;
        List<Method> calls = new ArrayList<>();
        for (Method call : EightParts.class.getDeclaredMethods()) {
            if (Modifier.isPublic(call.getModifiers())) {
                calls.add(call);
            }
        }
        calls.sort(Comparator.comparing(Method::getName));
        DUE.is("how many calls", calls.size(), 55);
        for (int run = 0; run < runs; run++) {
            new ModelTest(first + run).go(calls);
        }
        DUE.end();
    }

    private void go(List<Method> calls) throws ReflectiveOperationException {
        int temper = random.nextInt(3);
        goUntil(CALLS / 2, calls, temper);
        holdAll();
        goUntil(CALLS - CALLS_TO_HOLD_ALL, calls, temper);
        holdAll();
    }

    private void goUntil(int end, List<Method> calls, int temper) throws ReflectiveOperationException {
        while (agrees && done.size() < end) {
            if (random.nextInt(5) == 0) {
                layNumber(temper);
            } else if (random.nextInt(12) == 0) {
                writeText();
            } else {
                Method call = calls.get(random.nextInt(calls.size()));
                // Changes of the order are made rarer: else no list would be asked twice.
                if (call.getName().equals("order") && random.nextInt(3) != 0) {
                    continue;
                }
                both(call, arguments(call));
            }
        }
    }

    private void both(Method call, Object[] arguments) throws ReflectiveOperationException {
        if (!agrees || done.size() == CALLS) {
            return;
        }
        Method other = Model.class.getDeclaredMethod(call.getName(), call.getParameterTypes());
        other.setAccessible(true);
        Object got = call.invoke(program, arguments);
        Object want = other.invoke(model, arguments);
        String text = call.getName() + Arrays.toString(arguments);
        done.add(text + " = " + got);
        if (!got.equals(want)) {
            agrees = false;
            DUE.is(String.join("; ", done) + "\n  " + text, asLong(got), asLong(want));
        }
    }

    private static long asLong(Object answer) {
        return answer instanceof Boolean is ? (is ? 1 : 0) : ((Number) answer).longValue();
    }

    private void call(String name, Object... arguments) throws ReflectiveOperationException {
        for (Method method : EightParts.class.getDeclaredMethods()) {
            if (method.getName().equals(name) && Modifier.isPublic(method.getModifiers())) {
                both(method, arguments);
            }
        }
    }

    private void holdAll() throws ReflectiveOperationException {
        for (int slot = 0; slot < 8; slot++) {
            for (int part = 0; part < 8; part++) {
                call("part", slot, part);
            }
        }
        call("count", 0);
    }

    private void layNumber(int temper) throws ReflectiveOperationException {
        int slot = random.nextInt(8);
        int kind = random.nextInt(temper == ANY ? 7 : 4);
        if (kind < 3) {
            layListed(slot, temper == UNITS ? 1 : 1 + random.nextInt(3));
            if (temper != UNITS && random.nextInt(4) == 0) {
                call("times", slot, slot, random.nextInt(60) - 30);
            }
            return;
        }
        if (kind == 3) {
            call("one", slot, random.nextInt(8));
            return;
        }
        int[] sizes = {3, 40, 400, 20000};
        int size = sizes[random.nextInt(4)];
        boolean even = random.nextBoolean();
        boolean outermost = random.nextInt(3) == 0;
        for (int part = 0; part < 8; part++) {
            int v = random.nextInt(2 * size + 1) - size;
            if (outermost || random.nextInt(5) == 0) {
                v = (v < 0 ? -1 : 1) * (size - random.nextInt(2));
            }
            call("put", slot, part, even ? v & ~1 : v);
        }
    }

    private void layListed(int slot, int norm) throws ReflectiveOperationException {
        int[] many = {1, 240, 2160, 6720};
        call("listed", slot, norm, random.nextInt(many[norm]));
    }

    private Object[] arguments(Method call) {
        Class<?>[] types = call.getParameterTypes();
        Object[] to = new Object[types.length];
        for (int k = 0; k < to.length; k++) {
            to[k] = types[k] == boolean.class ? (Object) random.nextBoolean() : (Object) number(call.getName(), k);
        }
        return to;
    }

    private int number(String name, int k) {
        if (random.nextInt(60) == 0) {
            int[] edges = {-1, 8, -2, 9, 1000, 1001, -1001, Integer.MAX_VALUE, Integer.MIN_VALUE};
            return edges[random.nextInt(edges.length)];
        }
        switch (name + k) {
            case "put2": return random.nextInt(9) - 4;
            case "listed1": case "many0": case "listedPart0": case "angles1":
            case "alikeMany1": case "commuting1": return random.nextInt(4);
            case "divisors1": case "divisor1": return 1 + random.nextInt(3);
            case "listed2": case "listedPart1": return random.nextInt(260);
            case "table0": case "table1": return random.nextInt(241);
            case "divisor3": return random.nextInt(30);
            case "madeAt1": return random.nextInt(random.nextBoolean() ? 6 : 260);
            case "made0": case "madeAt0": return random.nextBoolean() ? 1 << random.nextInt(8) : random.nextInt(256);
            case "made1": case "count0": return random.nextInt(6);
            case "rests2": return random.nextInt(4);
            case "times2": case "angles2": return random.nextInt(25) - 12;
            case "turn3": case "chain4": case "turned1": case "turnCycle2": return random.nextInt(4);
            case "chain2": case "bracket1": case "bracketed0": return 1 + random.nextInt(6);
            case "chain3": case "bracket2": case "bracketed1": return random.nextInt(1 << 20);
            case "bracket3": return random.nextInt(random.nextBoolean() ? 3 : 45);
            case "power2": return random.nextInt(random.nextBoolean() ? 5 : 62);
            case "cycles0": return 1 + random.nextInt(8);
            case "nearest2": case "alike2": case "alikeMany2":
                return 1 + random.nextInt(random.nextBoolean() ? 4 : 1000);
            case "spell1": return random.nextInt(20) - 1;
            case "back0": return random.nextInt(25);
            case "feed0": case "feed1": case "feed2": case "feed3": case "feed4": return random.nextInt();
            default: return random.nextInt(8);
        }
    }

    private void writeText() throws ReflectiveOperationException {
        if (random.nextInt(4) != 0) {
            call("work", random.nextInt(8));
        }
        String text = sumText(0);
        if (random.nextInt(3) == 0 && !text.isEmpty()) {
            String signs = "~()+-*ah0 9i\u00e9";
            int at = random.nextInt(text.length());
            text = text.substring(0, at) + signs.charAt(random.nextInt(signs.length()))
                + text.substring(at + random.nextInt(2));
        }
        for (int at = 0; at < text.length(); at += 20) {
            Object[] words = new Object[5];
            for (int word = 0; word < 5; word++) {
                int four = 0;
                for (int k = 0; k < 4; k++) {
                    int from = at + 4 * word + k;
                    four = four << 8 | (from < text.length() ? text.charAt(from) : 32);
                }
                words[word] = four;
            }
            call("feed", words);
        }
        call("back", (20 - text.length() % 20) % 20);
        call("work", random.nextInt(8));
    }

    private String sumText(int depth) {
        StringBuilder to = new StringBuilder(termText(depth));
        while (random.nextInt(3) == 0) {
            to.append(random.nextBoolean() ? '+' : '-').append(termText(depth));
        }
        return to.toString();
    }

    private String termText(int depth) {
        StringBuilder to = new StringBuilder(factorText(depth));
        while (random.nextInt(3) == 0) {
            to.append('*').append(factorText(depth));
        }
        return to.toString();
    }

    private String factorText(int depth) {
        String blanks = " ".repeat(random.nextInt(8) / 6);
        int kind = random.nextInt(8);
        if (kind < 4 || depth > 14) {
            return blanks + (char) ('a' + random.nextInt(8)) + blanks;
        }
        if (kind == 4) {
            return blanks + random.nextInt(random.nextInt(6) == 0 ? 1100 : 12);
        }
        if (kind == 5) {
            return blanks + "(" + sumText(depth + 1) + ")" + blanks;
        }
        return "~".repeat(1 + random.nextInt(random.nextInt(4) == 0 ? 14 : 2)) + blanks + factorText(depth + 1);
    }
}
