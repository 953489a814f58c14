import java.lang.reflect.InvocationTargetException;
import java.lang.reflect.Method;
import java.lang.reflect.Modifier;
import java.util.List;
import java.util.function.Supplier;

/** LANGUAGE.md, rule 7: no call throws, for any arguments in any state. */
public final class AnyArgumentsTest {
    private static final int[] NUMBERS = {Integer.MIN_VALUE, -41, -1, 0, 1, 2, 5, 6, 40, 41, 60, 61, Integer.MAX_VALUE};
    private static final List<Supplier<FlossRumours>> STATES =
        List.of(Edges::bare, Edges::people, Edges::full, Edges::fullWithCloud);
    /** Together with what made the object these stay below its 512 calls. */
    private static final int CALLS = 300;

    public static void main(String[] args) throws Exception {
        for (Method m : FlossRumours.class.getDeclaredMethods()) {
            if (!Modifier.isPublic(m.getModifiers())) continue;
            for (int state = 0; state < STATES.size(); state++) tryAll(m, STATES.get(state), state);
        }
        Due.end();
    }

    private static void tryAll(Method m, Supplier<FlossRumours> made, int state) throws Exception {
        int many = m.getParameterCount();
        int all = 1;
        for (int k = 0; k < many; k++) all *= NUMBERS.length;
        FlossRumours x = made.get();
        // copy takes five: every seventh of its calls still has each pair of numbers in each pair of places
        for (int k = 0; k < all; k += many > 3 ? 7 : 1) {
            if (k % CALLS == 0) x = made.get();
            Object[] numbers = new Object[many];
            for (int rest = k, p = 0; p < many; p++, rest /= NUMBERS.length) numbers[p] = NUMBERS[rest % NUMBERS.length];
            String call = m.getName() + List.of(numbers) + " in state " + state;
            Due.is(call + " throws", throwsOn(m, x, numbers) ? 1 : 0, 0);
        }
    }

    private static boolean throwsOn(Method m, FlossRumours x, Object[] numbers) throws Exception {
        try {
            m.invoke(x, numbers);
            return false;
        } catch (InvocationTargetException thrown) {
            return true;
        }
    }
}
