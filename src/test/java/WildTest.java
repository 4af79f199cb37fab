import java.lang.reflect.InvocationTargetException;
import java.lang.reflect.Method;
import java.util.ArrayList;
import java.util.Arrays;
import java.util.Comparator;
import java.util.List;
import java.util.Random;

/** Every call of the face with numbers at and beyond all edges: nothing is thrown, all is as the Model's. */
public final class WildTest {
    private static final int RUNS = 150, CALLS = 512;
    private static final long[] EDGES = {Integer.MIN_VALUE, Integer.MIN_VALUE + 1, -1000001, -1000000, -1000, -999,
        -100, -99, -10, -9, -5, -2, -1, 0, 0, 0, 1, 1, 1, 2, 2, 3, 4, 5, 6, 7, 8, 9, 10, 11, 23, 24, 59, 60, 61, 99,
        100, 101, 127, 128, 300, 301, 720, 999, 1000, 1000000, 1000001, Integer.MAX_VALUE - 1, Integer.MAX_VALUE};
    private static final long[] SMALL = {0, 0, 1, 1, 2, 3, 4, 5, 10, 90, 100, -1, -3, -10};

    private WildTest() {
    }

    public static void main(String[] args) throws Exception {
        Due due = new Due();
        List<Method> calls = new ArrayList<>();
        for (Method m : LegHedge.class.getDeclaredMethods()) {
            if (java.lang.reflect.Modifier.isPublic(m.getModifiers())) {
                calls.add(m);
            }
        }
        calls.sort(Comparator.comparing(Method::getName));
        for (int seed = 0; seed < RUNS && !due.anyWrong(); seed++) {
            due.part("seed " + seed);
            run(due, calls, new Random(seed), seed % 3);
        }
        due.end();
    }

    private static void run(Due due, List<Method> calls, Random dice, int mood) throws Exception {
        LegHedge x = new LegHedge();
        Model y = new Model();
        for (int i = 0; i < CALLS && !due.anyWrong(); i++) {
            Method m = calls.get(dice.nextInt(calls.size()));
            Object[] with = new Object[m.getParameterCount()];
            for (int p = 0; p < with.length; p++) {
                long[] from = dice.nextInt(mood * 8 + 2) == 0 ? EDGES : SMALL;
                long v = from[dice.nextInt(from.length)];
                with[p] = m.getParameterTypes()[p] == long.class ? (Object) v : (Object) (int) v;
            }
            Method same = Model.class.getDeclaredMethod(m.getName(), m.getParameterTypes());
            String call = m.getName() + Arrays.toString(with);
            try {
                Number got = (Number) m.invoke(x, with);
                due.is(call, got.longValue(), ((Number) same.invoke(y, with)).longValue());
            } catch (InvocationTargetException e) {
                due.holds(call + " throws " + e.getCause(), false);
            }
        }
    }
}
