import java.lang.reflect.InvocationTargetException;
import java.lang.reflect.Method;
import java.lang.reflect.Modifier;
import java.util.ArrayList;
import java.util.Comparator;
import java.util.List;
import java.util.Random;

/** Any call with any arguments in any state answers: nothing is thrown, whatever is asked. */
public final class NeverThrowsTest {
    private static final int RUNS = 300, CALLS = 512;
    private static final int[] EDGES = {Integer.MIN_VALUE, Integer.MIN_VALUE + 1, -61, -9, -2, -1, 4, 5, 6, 7, 8, 9, 10,
        59, 60, 61, 119, 120, 121, 255, 256, 999, 1000, 32767, 32768, 1 << 30, Integer.MAX_VALUE - 1, Integer.MAX_VALUE};
    private static final String[] TEXTS = {"like 0 0 999;near 1 1 999;mile 999;dues e;pick o", "dues i;cost 0 999;cost 1 999",
        "shun !(((s<1|i=1)))|t>1&f<9 999;pick d", "shun", "mile 1;", ""};

    public static void main(String[] args) throws Exception {
        List<Method> calls = new ArrayList<>();
        for (Method m : CrossroadsCarts.class.getDeclaredMethods()) if (Modifier.isPublic(m.getModifiers())) calls.add(m);
        calls.sort(Comparator.comparing(Method::getName));
        if (calls.size() != 33) throw new IllegalStateException("33 calls are due, there are " + calls.size());
        for (int run = 0; run < RUNS; run++) oneRun(calls, new Random(run));
        System.out.println("NeverThrowsTest: " + RUNS + " runs, nothing thrown");
    }

    private static void oneRun(List<Method> calls, Random random) throws Exception {
        CrossroadsCarts x = new CrossroadsCarts();
        StringBuilder told = new StringBuilder();
        for (int i = 0; i < CALLS; i++) {
            if (random.nextInt(40) == 0) Check.land(x, TEXTS[random.nextInt(TEXTS.length)]);
            Method call = calls.get(random.nextInt(calls.size()));
            Object[] with = arguments(call, random);
            told.append(call.getName()).append(java.util.Arrays.toString(with)).append(' ');
            try {
                call.invoke(x, with);
            } catch (InvocationTargetException e) {
                System.out.println("NeverThrowsTest: " + told + e.getCause());
                System.exit(1);
            }
        }
    }

    private static Object[] arguments(Method call, Random random) {
        Class<?>[] types = call.getParameterTypes();
        Object[] with = new Object[types.length];
        for (int i = 0; i < types.length; i++) {
            if (types[i] == boolean.class) with[i] = random.nextBoolean();
            else if (types[i] == long.class) with[i] = random.nextBoolean() ? random.nextLong() : (long) number(random);
            else with[i] = number(random);
        }
        return with;
    }

    private static int number(Random random) {
        int how = random.nextInt(12);
        return how == 0 ? random.nextInt() : how == 1 ? EDGES[random.nextInt(EDGES.length)] : random.nextInt(how < 5 ? 9 : 4);
    }
}
