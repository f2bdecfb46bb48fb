import java.lang.reflect.InvocationTargetException;
import java.lang.reflect.Method;
import java.util.Arrays;
import java.util.Comparator;
import java.util.Random;

/** Calls of every kind with numbers of every size, by fixed seeds: none may throw, and the same calls answer the same. */
public final class NeverThrowsTest {
    private static final int RUNS = 300;
    private static final int CALLS = 512;
    private static final int[] ODD = {Integer.MIN_VALUE, Integer.MIN_VALUE + 1, -1000000, -97, -2, 97, 255, 256, 1000, 1 << 30, Integer.MAX_VALUE};
    private static final Checks CHECKS = new Checks();

    public static void main(String[] args) throws IllegalAccessException {
        for (int run = 0; run < RUNS && CHECKS.wrongs() < 20; run++) {
            CHECKS.due("run " + run + " once more", answers(run), answers(run));
        }
        CHECKS.end();
    }

    private static long answers(int run) throws IllegalAccessException {
        Random random = new Random(run);
        Method[] methods = Arrays.stream(DoorMornings.class.getDeclaredMethods())
            .filter(m -> (m.getModifiers() & java.lang.reflect.Modifier.PUBLIC) != 0)
            .sorted(Comparator.comparing(Method::getName)).toArray(Method[]::new);
        DoorMornings x = run % 5 == 0 ? new DoorMornings() : Checks.told("g6 2;g2 1;g9 3;w3;w6;w0;s1;c5;z12;");
        long all = 0;
        for (int i = 0; i < CALLS; i++) {
            Method m = methods[random.nextInt(methods.length)];
            Object[] numbers = new Object[m.getParameterCount()];
            for (int k = 0; k < numbers.length; k++) {
                numbers[k] = random.nextInt(10) == 0 ? ODD[random.nextInt(ODD.length)] : random.nextInt(11) - 1;
            }
            try {
                all = all * 31 + ((Number) m.invoke(x, numbers)).longValue();
            } catch (InvocationTargetException e) {
                CHECKS.holds(m.getName() + Arrays.toString(numbers) + " throws nothing: " + e.getCause(), false);
            }
        }
        return all;
    }
}
