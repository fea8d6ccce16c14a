import java.lang.reflect.InvocationTargetException;
import java.lang.reflect.Method;
import java.util.ArrayList;
import java.util.Arrays;
import java.util.Comparator;
import java.util.List;
import java.util.Random;

/** No call throws, whatever its arguments, and the same calls always give the same answers. */
public final class WildCallsTest {
    private static final int[] EDGES = {Integer.MIN_VALUE, Integer.MIN_VALUE + 1, -1000001, -1001, -1000, -101, -100,
        -20, -2, -1, 0, 1, 2, 3, 4, 5, 6, 7, 8, 9, 10, 12, 13, 20, 39, 40, 41, 59, 60, 61, 99, 100, 101, 199, 200, 999,
        1000, 1001, 1999, 2000, 2001, 5000, 9960, 9999, 10000, 10001, 99999, 100000, 100001, 200000, 200001,
        Integer.MAX_VALUE - 1, Integer.MAX_VALUE};

    public static void main(String[] args) {
        Checks checks = new Checks();
        List<Method> methods = new ArrayList<>();
        for (Method method : EvenSteps.class.getDeclaredMethods()) {
            if (java.lang.reflect.Modifier.isPublic(method.getModifiers())) {
                methods.add(method);
            }
        }
        methods.sort(Comparator.comparing(Method::getName));
        checks.same("methods", methods.size(), 36);
        for (int run = 0; run < 300; run++) {
            long[] once = answers(methods, run, checks);
            checks.holds("the same answers in run " + run, Arrays.equals(once, answers(methods, run, checks)));
        }
        checks.end();
    }

    private static long[] answers(List<Method> methods, int seed, Checks checks) {
        Random random = new Random(seed);
        EvenSteps subject = new EvenSteps();
        long[] all = new long[1000];
        for (int i = 0; i < all.length; i++) {
            Method method = methods.get(random.nextInt(methods.size()));
            Object[] args = arguments(method, random);
            try {
                all[i] = ((Number) method.invoke(subject, args)).longValue();
            } catch (InvocationTargetException e) {
                checks.holds(method.getName() + Arrays.toString(args) + " threw " + e.getCause(), false);
            } catch (IllegalAccessException e) {
                checks.holds(method.getName() + " cannot be called", false);
            }
        }
        return all;
    }

    private static Object[] arguments(Method method, Random random) {
        Class<?>[] types = method.getParameterTypes();
        Object[] args = new Object[types.length];
        for (int i = 0; i < types.length; i++) {
            int number = random.nextInt(3) > 0 ? random.nextInt(4) : EDGES[random.nextInt(EDGES.length)];
            args[i] = types[i] == long.class ? (Object) (number * 0x100000001L) : (Object) number;
        }
        return args;
    }
}
