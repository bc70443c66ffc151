import java.lang.reflect.InvocationTargetException;
import java.lang.reflect.Method;
import java.lang.reflect.Modifier;
import java.util.Arrays;
import java.util.Comparator;
import java.util.Random;

/**
 * LANGUAGE.md, rule 7: no call throws, for any arguments in any state. The calls are drawn from
 * fixed seeds, most with numbers near the edges, and go far behind the 512th of an object.
 */
public final class NeverThrowsTest {
    private static final int OBJECTS = 60;
    private static final int CALLS = 4000;
    private static final int[] EDGES = {0, 1, 2, 3, 4, 8, 9, 10, 11, 12, 13, 19, 20, 23, 24, 31, 32, 33, 64, 98, 99, 100,
        4094, 4095, 4096, 8191, -1, -2, -3, -9, -20, Integer.MAX_VALUE, Integer.MAX_VALUE - 1, Integer.MIN_VALUE,
        Integer.MIN_VALUE + 1};
    private static final Method[] METHODS = methods();

    public static void main(String[] args) {
        for (int seed = 0; seed < OBJECTS; seed++) {
            run(new Random(seed));
        }
        Due.end();
    }

    private static Method[] methods() {
        Method[] methods = Arrays.stream(WordsTold.class.getDeclaredMethods())
            .filter(method -> Modifier.isPublic(method.getModifiers())).toArray(Method[]::new);
        Arrays.sort(methods, Comparator.comparing(Method::getName));
        return methods;
    }

    private static void run(Random random) {
        WordsTold x = new WordsTold();
        int wild = 1 + random.nextInt(20);
        for (int i = 0; i < CALLS; i++) {
            if (random.nextInt(4) == 0) {
                tell(x, random);
            } else {
                call(x, METHODS[random.nextInt(METHODS.length)], random, wild);
            }
        }
    }

    private static void tell(WordsTold x, Random random) {
        int word = random.nextInt(12);
        StringBuilder text = new StringBuilder().append((char) ('a' + word)).append("WPKLSR".charAt(random.nextInt(6)));
        int words = random.nextInt(9);
        int from = random.nextInt(12);
        for (int i = 0; i < words; i++) {
            int other = (from + 5 * i) % 12;
            text.append(other == word ? "" : (char) ('a' + other));
        }
        Due.type(x, text.toString());
        if (random.nextBoolean()) {
            x.telling(random.nextInt(2));
        } else {
            x.change(random.nextInt(2), random.nextInt(20));
        }
    }

    private static void call(WordsTold x, Method method, Random random, int wild) {
        Class<?>[] types = method.getParameterTypes();
        Object[] values = new Object[types.length];
        for (int i = 0; i < types.length; i++) {
            if (types[i] == boolean.class) {
                values[i] = random.nextBoolean();
            } else if (types[i] == long.class) {
                values[i] = random.nextLong();
            } else {
                values[i] = number(random, wild);
            }
        }
        try {
            int answer = (Integer) method.invoke(x, values);
            Due.due(method.getName() + Arrays.toString(values) + " answered " + answer + ", which none may",
                mayBe(answer) ? 1 : 0, 1);
        } catch (InvocationTargetException e) {
            Due.due(method.getName() + Arrays.toString(values) + " threw " + e.getCause(), 1, 0);
        } catch (IllegalAccessException e) {
            throw new IllegalStateException(method.toString(), e);
        }
    }

    private static int number(Random random, int wild) {
        if (random.nextInt(wild) > 0) {
            return random.nextBoolean() ? random.nextInt(2) : random.nextInt(12);
        }
        return random.nextInt(4) == 0 ? random.nextInt() : EDGES[random.nextInt(EDGES.length)];
    }

    /** The document tells no answer below that of a fault at the tape's end, and none above WAIT's greatest. */
    private static boolean mayBe(int answer) {
        return answer >= -30 && answer <= 99 * 78;
    }
}
