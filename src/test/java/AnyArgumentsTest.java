import java.lang.reflect.InvocationTargetException;
import java.lang.reflect.Method;
import java.lang.reflect.Modifier;

/** Rule 7 of LANGUAGE.md: no call throws, for any arguments in any state; beyond 512 calls, too, where answers are free. */
public final class AnyArgumentsTest extends Bounds {
    private static final int[] MANY = {LOW, LOW + 1, -101, -100, -99, -2, -1, 0, 1, 2, 3, 4, 5, 6, 8, 9, 10, 11, 12, 13, 15, 16, 33, 47,
        48, 59, 60, 66, 99, 100, 112, 120, 399, 400, 505, 909, 999, 1000, 4095, 4096, 9999, 10000, 0xAAAA, 0xFFFF, HIGH - 1, HIGH};
    private static final int[] SOME = {LOW, -1, 0, 1, 5, 9, 12, 33, 47, 60, 909, 4095, HIGH};
    private static final int[] FEW = {LOW, -1, 0, 2, 9, 12, 100, HIGH};
    private static int calls = 0;
    private static int thrown = 0;

    public static void main(String[] args) throws IllegalAccessException {
        says("An object is used for at most 512 calls after it has been made; what later calls answer is free.");
        for (Method m : DriftCards.class.getDeclaredMethods()) {
            if (!Modifier.isPublic(m.getModifiers())) continue;
            tryAll(m, States.empty().bare());
            tryAll(m, States.some().bare());
            tryAll(m, States.full().bare());
        }
        due("calls that have thrown", thrown, 0);
        due("objects were called more than 512 times", calls > 3 * 512 ? 1 : 0, 1);
        end();
    }

    private static void tryAll(Method m, DriftCards x) throws IllegalAccessException {
        int places = m.getParameterCount();
        int[] values = places <= 2 ? MANY : places <= 4 ? SOME : FEW;
        int ways = 1;
        for (int i = 0; i < places; i++) ways *= values.length;
        for (int way = 0; way < ways; way++) {
            Object[] arguments = new Object[places];
            int rest = way;
            for (int i = 0; i < places; i++) {
                int v = values[rest % values.length];
                rest /= values.length;
                if (m.getParameterTypes()[i] == long.class) arguments[i] = 0x0101010101L * v;
                else arguments[i] = v;
            }
            tryOne(m, x, arguments);
        }
    }

    private static void tryOne(Method m, DriftCards x, Object[] arguments) throws IllegalAccessException {
        calls++;
        try {
            m.invoke(x, arguments);
        } catch (InvocationTargetException e) {
            thrown++;
            if (thrown < 20) System.out.println(m.getName() + java.util.Arrays.toString(arguments) + " threw " + e.getCause());
        }
    }
}
