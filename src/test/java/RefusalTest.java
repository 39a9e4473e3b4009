import java.lang.reflect.InvocationTargetException;
import java.lang.reflect.Method;
import java.lang.reflect.Modifier;
import java.util.Arrays;
import java.util.Comparator;
import java.util.Random;
import java.util.Set;

/**
 * Any calls with any numbers, from fixed seeds: none throws, only what the document names is
 * refused, and what is refused (or NONE) changes nothing but finding(), findings().
 */
public final class RefusalTest {
    private static final Due due = new Due("RefusalTest");
    private static final int[] ODD = {Integer.MIN_VALUE, Integer.MAX_VALUE, -1, 6, 12, 24, 40, 41, 63, 64, 120, 121};
    private static final Set<String> STATES = Set.of("street", "year");
    private static final Set<String> ANSWER_BELOW = Set.of("asked", "upper", "lower", "digest");

    public static void main(String[] args) throws IllegalAccessException {
        due.promise(0, "refusals");
        Method[] calls = Arrays.stream(StreetKeys.class.getDeclaredMethods())
            .filter(m -> Modifier.isPublic(m.getModifiers()))
            .sorted(Comparator.comparing(Method::getName)).toArray(Method[]::new);
        for (int seed = 0; seed < 4000; seed++) {
            run(calls, new Random(seed));
        }
        due.end();
    }

    private static void run(Method[] calls, Random random) throws IllegalAccessException {
        StreetKeys x = new StreetKeys();
        if (random.nextInt(8) > 0) {
            x = Due.street("h9h20h3h1p0:12p1:5p1:0p-:7p3:3", "m0>0m1>1m2>3m3>4c0>3i1@2l2@0q0/1x3m3>0");
        }
        // Each is looked at by some twenty calls more, and an object is for 512 in all.
        for (int i = 0; i < 20; i++) {
            Method m = calls[random.nextInt(calls.length)];
            Object[] given = new Object[m.getParameterCount()];
            for (int a = 0; a < given.length; a++) {
                boolean odd = random.nextInt(12) == 0;
                int number = odd ? ODD[random.nextInt(ODD.length)] : random.nextInt(6);
                given[a] = m.getParameterTypes()[a] == boolean.class ? (Object) random.nextBoolean() : (Object) number;
            }
            one(x, m, given);
        }
    }

    private static void one(StreetKeys x, Method m, Object[] given) throws IllegalAccessException {
        String call = m.getName() + Arrays.toString(given);
        long before = state(x);
        int found = found(x);
        try {
            long answer = ((Number) m.invoke(x, given)).longValue();
            if (answer >= 0 || ANSWER_BELOW.contains(m.getName())) {
                return;
            }
            boolean named = answer == -1 || answer == -3 || answer == -9 || answer == -2 && m.getName().equals("event")
                || answer == -4 && STATES.contains(m.getName());
            due.is(call + " names its refusal " + answer, named ? 1 : 0, 1);
            due.is(call + " changes nothing", state(x), before);
            due.is(call + " finds", found(x) - found, answer == -3 ? 1 : 0);
        } catch (InvocationTargetException e) {
            due.fail(call + " threw " + e.getCause());
        }
    }

    private static long state(StreetKeys x) {
        return ((x.digest() * 31 + x.asked()) * 31 + x.upper()) * 31 + x.lower();
    }

    private static int found(StreetKeys x) {
        int sum = 0;
        for (int f = 1; f < 6; f++) {
            sum += x.findings(f);
        }
        return sum;
    }
}
