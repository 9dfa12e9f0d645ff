import java.lang.reflect.Method;
import java.util.List;
import java.util.Random;

/** Wild numbers and bytes: nothing but led's own exception ever reaches the caller. */
final class WildTest {
    private static final int[] EDGES = {
        Integer.MIN_VALUE, Integer.MAX_VALUE, -1000, -100, -3, -2, -1, 0, 1, 2, 3, 4, 5, 6, 7, 9, 10, 11, 12, 15, 16, 17,
        30, 31, 32, 33, 40, 41, 42, 60, 61, 63, 64, 99, 100, 1000, 1001, 65535, 65536, 65537,
    };

    private final Random random = new Random(7);
    private final Checks checks = new Checks("WildTest");

    private WildTest() {
    }

    public static void main(String[] args) {
        WildTest test = new WildTest();
        for (int i = 0; i < 150; i++) {
            test.object();
        }
        test.checks.end();
    }

    private void object() {
        UmbrellaHeir x = random.nextInt(4) == 0 ? new UmbrellaHeir() : Checks.told(random.nextBoolean() ? Counties.BASE : Counties.silks(5));
        List<Method> methods = Calls.ofFace();
        for (int call = 0; call < 500; call++) {
            Method method = methods.get(random.nextInt(methods.size()));
            checks.due("only led throws, not " + method.getName(), calm(x, method), true);
        }
    }

    private boolean calm(UmbrellaHeir x, Method method) {
        Object[] arguments = new Object[method.getParameterCount()];
        for (int i = 0; i < arguments.length; i++) {
            boolean flag = method.getParameterTypes()[i] == boolean.class;
            int edge = random.nextInt(8) == 0 ? random.nextInt() : EDGES[random.nextInt(EDGES.length)];
            arguments[i] = flag ? (Object) random.nextBoolean() : (Object) edge;
        }
        try {
            Calls.ask(x, method, arguments);
            return true;
        } catch (IllegalStateException e) {
            return false;
        }
    }
}
