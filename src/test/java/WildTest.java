import java.lang.reflect.InvocationTargetException;
import java.lang.reflect.Method;
import java.lang.reflect.Modifier;
import java.util.Arrays;
import java.util.Comparator;
import java.util.Random;

/** Any arguments in any order, beyond the 512th call, too: no call may throw. */
public final class WildTest {
    private static final int OBJECTS = 300;
    private static final int CALLS = 1500;
    private static final int[] EDGES = {Integer.MIN_VALUE, Integer.MIN_VALUE + 1, -1000000, -11, -2, -1, 0, 1, 2, 3, 5, 7, 8, 9,
        10, 11, 12, 20, 26, 27, 30, 36, 40, 99, 100, 360, 500, 998, 999, 1000, 1023, 1024, 9999, 10000, 65535, 65536, 99999,
        1 << 30, Integer.MAX_VALUE - 1, Integer.MAX_VALUE};
    private static final String[] TAPES = {"form ab 1 1;form abc 2 0", "column 10", "least 9;most 1", "break 0;wide 0", "feast 3",
        "bar ab", "a b c abc", "aaaaaaaaaaaaaaaaaaaaaaaaaaaaaaaaaaaaaaaaaaaaaaaaaaaaaaaaaaaa", "form aa 1 0;form aaa 9 9", "ab abc"};

    public static void main(String[] args) throws Exception {
        Method[] methods = Arrays.stream(LeadLetters.class.getDeclaredMethods())
            .filter(m -> Modifier.isPublic(m.getModifiers())).sorted(Comparator.comparing(Method::getName)).toArray(Method[]::new);
        int wrong = 0;
        for (int seed = 0; seed < OBJECTS && wrong < 10; seed++) {
            Random random = new Random(seed);
            LeadLetters letters = new LeadLetters();
            for (int call = 0; call < CALLS; call++) {
                if (random.nextInt(30) == 0) {
                    for (char c : TAPES[random.nextInt(TAPES.length)].toCharArray()) letters.feed(c, 1);
                }
                Method method = methods[random.nextInt(methods.length)];
                Object[] values = new Object[method.getParameterCount()];
                for (int i = 0; i < values.length; i++) {
                    int value = random.nextInt(3) > 0 ? random.nextInt(12) : EDGES[random.nextInt(EDGES.length)];
                    if (method.getParameterTypes()[i] == long.class) values[i] = random.nextLong();
                    else values[i] = value;
                }
                try {
                    method.invoke(letters, values);
                } catch (InvocationTargetException e) {
                    wrong++;
                    System.out.println("seed " + seed + " call " + call + ": " + method.getName() + Arrays.toString(values) + " threw " + e.getCause());
                }
            }
        }
        System.out.println("WildTest: " + wrong + " wrong");
        if (wrong > 0) System.exit(1);
    }
}
