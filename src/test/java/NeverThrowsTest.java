import java.lang.reflect.InvocationTargetException;
import java.lang.reflect.Method;
import java.lang.reflect.Modifier;

/** No call may ever throw, for any arguments (LANGUAGE.md, rule 7): every call with every mix of edges. */
public final class NeverThrowsTest {
    private static final int[] MANY = {Integer.MIN_VALUE, -1000000001, -9, -2, -1, 0, 1, 2, 3, 4, 5, 6, 7, 8, 9, 10, 16,
        39, 40, 41, 60, 61, 64, 100, 101, 120, 199, 200, 201, 400, 401, 9999, 10000, Integer.MAX_VALUE};
    private static final int[] SOME = {Integer.MIN_VALUE, -1, 0, 1, 2, 5, 8, 40, 41, 201, Integer.MAX_VALUE};
    private static final int[] FEW = {Integer.MIN_VALUE, -1, 0, 1, 3, 5, 40, Integer.MAX_VALUE};

    public static void main(String[] args) throws IllegalAccessException {
        Bounds.Scene[] scenes = {Bounds::made, Bounds::row, Bounds::full};
        for (Bounds.Scene scene : scenes) {
            for (Method m : TanRow.class.getDeclaredMethods()) {
                if (Modifier.isPublic(m.getModifiers())) {
                    everyMix(scene.make(), m);
                }
            }
        }
        Checks.end();
    }

    private static void everyMix(TanRow x, Method m) throws IllegalAccessException {
        int n = m.getParameterCount();
        int[] edges = n <= 2 ? MANY : n == 3 ? SOME : FEW;
        int mixes = 1;
        for (int i = 0; i < n; i++) {
            mixes *= edges.length;
        }
        for (int mix = 0; mix < mixes; mix++) {
            Object[] a = new Object[n];
            int rest = mix;
            for (int i = 0; i < n; i++) {
                int v = edges[rest % edges.length];
                rest /= edges.length;
                a[i] = m.getParameterTypes()[i] == long.class ? (Object) (long) v : (Object) v;
            }
            Checks.due(m.getName() + java.util.Arrays.toString(a) + " throws", throwsWith(x, m, a) ? 1 : 0, 0);
        }
    }

    private static boolean throwsWith(TanRow x, Method m, Object[] a) throws IllegalAccessException {
        try {
            m.invoke(x, a);
            return false;
        } catch (InvocationTargetException e) {
            return true;
        }
    }
}
