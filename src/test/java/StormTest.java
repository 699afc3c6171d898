import java.lang.reflect.InvocationTargetException;
import java.lang.reflect.Method;
import java.lang.reflect.Modifier;
import java.util.ArrayList;
import java.util.Comparator;
import java.util.List;
import java.util.NoSuchElementException;
import java.util.Random;

/** Any call with any arguments in any state: only led may throw, and only what the document says. */
public final class StormTest {
    private static final Expect E = new Expect();
    private static final int[] EDGES = {Integer.MIN_VALUE, Integer.MIN_VALUE + 1, -65537, -3, -2, -1, 0, 1, 2,
        3, 5, 7, 8, 9, 16, 17, 24, 25, 47, 48, 49, 100, 101, 700, 701, 9999, 10000, 65536, 65537,
        Integer.MAX_VALUE - 1, Integer.MAX_VALUE};
    private static final String[] TEXTS = {
        "disk overlap 3 log 2 oldest;band 2;band 8;write 0 1;write 9 2;unsure 0 3;read 0 1",
        "disk overlap 1 log 24 fullest;band 8;band 8;band 8;band 8;band 8;band 8",
        "disk overlap 2 log 5 fullest;band 2",
        "disk overlap 2 log 5 fullest;band"};

    public static void main(String[] args) throws IllegalAccessException {
        List<Method> calls = new ArrayList<>();
        for (Method method : ShingledDisk.class.getDeclaredMethods()) {
            if (Modifier.isPublic(method.getModifiers())) {
                calls.add(method);
            }
        }
        calls.sort(Comparator.comparing(Method::toString));
        Random random = new Random(7);
        for (int run = 0; run < 400; run++) {
            ShingledDisk x = new ShingledDisk();
            if (run % 5 > 0) {
                Expect.tell(x, TEXTS[run % 5 - 1]);
            }
            for (int i = 0; i < 500; i++) {
                Method method = calls.get(random.nextInt(calls.size()));
                // a disk that is fed junk would be lost by each disk()
                if (!method.getName().equals("disk") || random.nextInt(9) == 0) {
                    storm(x, method, random);
                }
            }
        }
        E.end("StormTest");
    }

    private static void storm(ShingledDisk x, Method method, Random random) throws IllegalAccessException {
        Class<?>[] types = method.getParameterTypes();
        Object[] given = new Object[types.length];
        for (int i = 0; i < types.length; i++) {
            int small = random.nextInt(12);
            int edge = EDGES[random.nextInt(EDGES.length)];
            given[i] = types[i] == boolean.class ? (Object) random.nextBoolean()
                : (Object) (random.nextBoolean() ? small : edge);
        }
        try {
            method.invoke(x, given);
            E.yes(method.getName(), true);
        } catch (InvocationTargetException e) {
            boolean due = method.getName().equals("led")
                && e.getCause().getClass() == NoSuchElementException.class;
            E.yes(method.getName() + List.of(given) + " threw " + e.getCause(), due);
        }
    }
}
