import java.lang.reflect.InvocationTargetException;
import java.lang.reflect.Method;
import java.util.Arrays;
import java.util.Comparator;
import java.util.Random;

/** No call throws, whatever its arguments and whatever came before; the same calls answer the same. */
public final class RobustnessTest {
    private static final int[] EDGES = {0, 1, -1, -2, 2, 5, 6, 9, 10, 11, 12, 15, 16, 23, 24, 29, 30, 31,
        59, 60, 61, 99, 100, 255, 256, 365, 699, 700, 701, 999, 1000, 1999, 2000, 9999, 10000, -20000,
        -20001, Integer.MAX_VALUE, Integer.MIN_VALUE, 0x20202020, 0x6e6f7420, 0x28282828};

    public static void main(String[] args) throws IllegalAccessException {
        Method[] methods = Arrays.stream(ServantRegistry.class.getDeclaredMethods())
                .filter(m -> java.lang.reflect.Modifier.isPublic(m.getModifiers()))
                .sorted(Comparator.comparing(Method::getName)).toArray(Method[]::new);
        Check.due("public methods", methods.length, 36);
        for (int seed = 0; seed < 600; seed++) {
            Random random = new Random(seed);
            ServantRegistry r = new ServantRegistry();
            ServantRegistry twin = new ServantRegistry();
            boolean wild = seed % 3 == 0;
            for (int i = 0; i < 512; i++) {
                Method method = methods[random.nextInt(methods.length)];
                Object[] given = arguments(method, random, wild);
                Object got = call(r, method, given);
                Check.due(method.getName() + Arrays.toString(given), got.equals(call(twin, method, given)), true);
            }
        }
        Check.end();
    }

    private static Object[] arguments(Method method, Random random, boolean wild) {
        Class<?>[] types = method.getParameterTypes();
        Object[] given = new Object[types.length];
        for (int i = 0; i < types.length; i++) {
            int edge = EDGES[random.nextInt(EDGES.length)];
            int number = wild ? edge : random.nextInt(20) == 0 ? edge : random.nextInt(8);
            if (types[i] == boolean.class) {
                given[i] = random.nextBoolean();
            } else if (types[i] == long.class) {
                given[i] = wild ? random.nextLong() >>> random.nextInt(64) : (long) random.nextInt(300);
            } else {
                given[i] = method.getName().equals("day") ? random.nextInt(1001) : number;
            }
        }
        return given;
    }

    private static Object call(ServantRegistry r, Method method, Object[] given) throws IllegalAccessException {
        try {
            return method.invoke(r, given);
        } catch (InvocationTargetException thrown) {
            Check.due(method.getName() + Arrays.toString(given) + ": " + thrown.getCause(), true, false);
            return thrown;
        }
    }
}
