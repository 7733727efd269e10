import java.lang.reflect.InvocationTargetException;
import java.lang.reflect.Method;
import java.lang.reflect.Modifier;
import java.util.Arrays;
import java.util.Comparator;
import java.util.Random;

/** Rule 7: no call throws, for any arguments in any state; and the same calls always give the same answers. */
public final class WildCallsTest {
    private static final Check CHECK = new Check();
    private static final int[] EDGES = {Integer.MIN_VALUE, Integer.MIN_VALUE + 1, -9, -8, -2, -1, 0, 1, 2, 3, 4, 5, 6, 7, 8, 9, 10,
        11, 15, 16, 17, 18, 31, 32, 63, 64, 65, 255, 256, 599, 600, 601, 9999, 10000, 999999, 1000000, 99999999, 100000000,
        Integer.MAX_VALUE - 9, Integer.MAX_VALUE - 1, Integer.MAX_VALUE};
    private static final String[] TEXTS = {"1;", "1 2;2 1;", "1 0;0 1;", "0 0;0 0;", "1/2 1/3 1/6;1/3 1/3 1/3;1/6 1/3 1/2;", "",
        "1 2 3 4;4 3 2 1;2 1 4 3;3 4 1 2;", "999999 999998;1/7 3/9;", "1 1 1 1 1 1 1 1;".repeat(8),
        "1 2 3 4 5 6 7 8;2 3 4 5 6 7 8 1;3 4 5 6 7 8 1 2;4 5 6 7 8 1 2 3;5 6 7 8 1 2 3 4;6 7 8 1 2 3 4 5;7 8 1 2 3 4 5 6;8 1 2 3 4 5 6 7;",
        "1 2 0 4 5;2 0 4 5 1;0 4 5 1 2;4 5 1 2 0;5 1 2 0 4;", "7 8 9;1 2 3;", "1/0;", "1 2 3;4 5 6;7/11 8/13 9/17;"};

    public static void main(String[] args) throws IllegalAccessException {
        Method[] methods = Arrays.stream(EvenTables.class.getDeclaredMethods())
                .filter(m -> Modifier.isPublic(m.getModifiers())).toArray(Method[]::new);
        Arrays.sort(methods, Comparator.comparing(Method::getName));
        for (int run = 0; run < 400 && !CHECK.failed(); run++) {
            CHECK.in("run " + run);
            long once = answers(methods, run);
            CHECK.due("the same answers", answers(methods, run), once);
        }
        CHECK.finish("WildCallsTest");
    }

    private static long answers(Method[] methods, long seed) throws IllegalAccessException {
        Random random = new Random(seed);
        EvenTables x = new EvenTables();
        long sum = 0;
        for (int call = 0; call < 512; call++) {
            if (random.nextInt(25) == 0) {
                sum = sum * 31 + Check.tell(x, random.nextInt(4), TEXTS[random.nextInt(TEXTS.length)]);
            }
            Method method = methods[random.nextInt(methods.length)];
            Object[] arguments = new Object[method.getParameterCount()];
            for (int i = 0; i < arguments.length; i++) {
                arguments[i] = argument(random);
            }
            try {
                Object answer = method.invoke(x, arguments);
                long number = answer instanceof Boolean b ? (b ? 1 : 0) : ((Number) answer).longValue();
                sum = sum * 31 + number;
            } catch (InvocationTargetException thrown) {
                CHECK.fail(method.getName() + Arrays.toString(arguments) + " threw " + thrown.getCause());
            }
        }
        return sum;
    }

    private static int argument(Random random) {
        int kind = random.nextInt(10);
        return kind == 0 ? random.nextInt() : kind < 4 ? EDGES[random.nextInt(EDGES.length)] : random.nextInt(kind < 8 ? 4 : 20);
    }
}
