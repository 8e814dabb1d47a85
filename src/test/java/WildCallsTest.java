import java.lang.reflect.InvocationTargetException;
import java.lang.reflect.Method;
import java.lang.reflect.Modifier;
import java.util.ArrayList;
import java.util.Arrays;
import java.util.Comparator;
import java.util.List;
import java.util.Random;

/** Any arguments in any state: only element() throws, and only what the document names. */
public final class WildCallsTest {
    private static final int[] EDGES = {Integer.MIN_VALUE, Integer.MIN_VALUE + 1, -101, -100, -2, -1, 0, 1,
        2, 3, 4, 5, 7, 8, 9, 10, 19, 20, 30, 31, 32, 40, 41, 60, 61, 99, 100, 101, 119, 131, 132, 200, 201,
        1000, 1001, 100000, Integer.MAX_VALUE - 1, Integer.MAX_VALUE};
    private static final Checks CHECKS = new Checks("WildCallsTest");

    public static void main(String[] args) throws IllegalAccessException {
        List<Method> methods = new ArrayList<>();
        for (Method method : ShareKeeper.class.getDeclaredMethods()) {
            if (Modifier.isPublic(method.getModifiers())) {
                methods.add(method);
            }
        }
        methods.sort(Comparator.comparing(Method::getName));
        for (int seed = 0; seed < 300; seed++) {
            wild(methods, new Random(seed));
        }
        CHECKS.end();
    }

    private static void wild(List<Method> methods, Random random) throws IllegalAccessException {
        ShareKeeper x = new ShareKeeper(edge(random), edge(random), edge(random));
        for (int i = 0; i < 512; i++) {
            Method method = methods.get(random.nextInt(methods.size()));
            Class<?>[] types = method.getParameterTypes();
            Object[] arguments = new Object[types.length];
            for (int k = 0; k < types.length; k++) {
                arguments[k] = types[k] == boolean.class ? (Object) random.nextBoolean()
                    : (Object) (random.nextInt(3) == 0 ? edge(random) : random.nextInt(9));
            }
            try {
                method.invoke(x, arguments);
            } catch (InvocationTargetException e) {
                Class<?> thrown = e.getCause().getClass();
                boolean named = method.getName().equals("element")
                    && (thrown == IllegalArgumentException.class || thrown == IllegalStateException.class);
                CHECKS.due(method.getName() + Arrays.toString(arguments) + " throws " + e.getCause(),
                    named ? 1 : 0, 1);
            }
        }
    }

    private static int edge(Random random) {
        return EDGES[random.nextInt(EDGES.length)];
    }
}
