import java.lang.reflect.Method;
import java.lang.reflect.Modifier;
import java.util.Arrays;

/**
 * All calls with the least, the greatest and the first wrong numbers at each place, and at each two places:
 * none throws, all answer as the Model does, and what is wrong changes nothing.
 */
public final class EndsTest {
    private static final int[] ENDS = {
        Integer.MIN_VALUE, -20001, -1001, -3, -2, -1, 0, 4, 8, 61, 256, 1001, 20001, Integer.MAX_VALUE
    };
    private static final Due DUE = new Due();

    private final EightParts program = new EightParts();
    private final Model model = new Model();

    public static void main(String[] args) throws ReflectiveOperationException {
        for (Method call : EightParts.class.getDeclaredMethods()) {
            if (Modifier.isPublic(call.getModifiers())) {
                atEachTwoPlaces(call);
            }
        }
        DUE.end();
    }

    private static void atEachTwoPlaces(Method call) throws ReflectiveOperationException {
        int places = call.getParameterCount();
        for (int first = 0; first < places; first++) {
            for (int second = first; second < places; second++) {
                for (int end : ENDS) {
                    EndsTest test = new EndsTest();
                    test.layAll();
                    for (int other : ENDS) {
                        test.both(call, test.arguments(call, first, end, second, other));
                    }
                    test.holdAll(call.getName());
                }
            }
        }
    }

    private void layAll() {
        for (int slot = 0; slot < 8; slot++) {
            program.listed(slot, 1 + slot % 3, 29 * slot);
            model.listed(slot, 1 + slot % 3, 29 * slot);
        }
    }

    private Object[] arguments(Method call, int first, int end, int second, int other) {
        Class<?>[] types = call.getParameterTypes();
        Object[] to = new Object[types.length];
        for (int k = 0; k < to.length; k++) {
            int v = k == first ? end : k == second ? other : 1 + k % 2;
            to[k] = types[k] == boolean.class ? (Object) (v > 0) : (Object) v;
        }
        return to;
    }

    private void both(Method call, Object[] arguments) throws ReflectiveOperationException {
        Method due = Model.class.getDeclaredMethod(call.getName(), call.getParameterTypes());
        due.setAccessible(true);
        Object got = call.invoke(program, arguments);
        Object want = due.invoke(model, arguments);
        DUE.is(call.getName() + Arrays.toString(arguments) + " answered " + got + ", due is " + want + ":",
            got.equals(want), true);
    }

    private void holdAll(String behind) {
        for (int slot = 0; slot < 8; slot++) {
            for (int part = 0; part < 8; part++) {
                DUE.is("part behind " + behind, program.part(slot, part), model.part(slot, part));
            }
        }
        DUE.is("the tape behind " + behind, program.back(0), model.back(0));
        for (int what = 0; what < 5; what++) {
            DUE.is("count behind " + behind, program.count(what), model.count(what));
        }
    }
}
