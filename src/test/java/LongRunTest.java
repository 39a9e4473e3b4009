import java.lang.reflect.InvocationTargetException;
import java.lang.reflect.Method;
import java.lang.reflect.Modifier;
import java.util.Arrays;
import java.util.Comparator;
import java.util.Map;
import java.util.Random;
import java.util.TreeMap;

/**
 * Runs of 512 calls, as many as an object is used for, drawn from fixed seeds: each call has to
 * answer as Whole does, up to the last one, which is every call of the face in turn.
 */
public final class LongRunTest {
    private static final Due due = new Due("LongRunTest");
    private static final int CALLS = 512, RUNS_A_LAST_CALL = 40;
    private static final int[] ODD = {Integer.MIN_VALUE, Integer.MAX_VALUE, -2, -1, 2, 6, 9, 10, 12, 24, 40, 41, 64,
        120, 121, 127, 128, 255, 256};
    private static final Method[] FACE = Arrays.stream(StreetKeys.class.getDeclaredMethods())
        .filter(m -> Modifier.isPublic(m.getModifiers())).sorted(Comparator.comparing(Method::getName))
        .toArray(Method[]::new);
    /** How often each call was answered and not refused. */
    private static final Map<String, Integer> answered = new TreeMap<>();
    private static final Map<String, Integer> answeredLast = new TreeMap<>();

    private final Random random;
    private final Drawn drawn;
    private final String name;
    private final StreetKeys x = new StreetKeys();
    private final StreetKeys twin = new StreetKeys();
    private final Whole whole = new Whole();
    private int calls;

    private LongRunTest(int seed) {
        random = new Random(seed);
        drawn = new Drawn(random);
        name = "run " + seed;
    }

    public static void main(String[] args) {
        for (int seed = 0; seed < FACE.length * RUNS_A_LAST_CALL; seed++) {
            new LongRunTest(seed).run(FACE[seed % FACE.length]);
        }
        due.name("LongRunTest");
        for (Method m : FACE) {
            due.is(m.getName() + " was answered often", answered.getOrDefault(m.getName(), 0) >= 100 ? 1 : 0, 1);
            due.is(m.getName() + " was the 512th", answeredLast.getOrDefault(m.getName(), 0) > 0 ? 1 : 0, 1);
        }
        due.end();
    }

    private void run(Method last) {
        due.name(name);
        if (random.nextInt(10) > 0) {
            write("street", drawn.street(6, 8));
        }
        while (calls < CALLS - 1) {
            step();
        }
        one(last);
    }

    private void step() {
        // A text that is begun is written to its end, so that the last call is the one that is meant.
        int which = calls < CALLS - 130 ? random.nextInt(100) : 5 + random.nextInt(95);
        if (which < 1) {
            String street = drawn.street(6, 6);
            write("street", random.nextBoolean() ? street : drawn.marred(street));
        } else if (which < 5) {
            String year = drawn.year(whole.model, 1 + random.nextInt(5));
            write("year", random.nextInt(3) > 0 ? year : drawn.marred(year));
        } else if (which < 15) {
            likelyEvent();
        } else {
            Method m = FACE[random.nextInt(FACE.length)];
            boolean rare = m.getName().equals("street") || m.getName().equals("back");
            if (!rare || random.nextInt(20) == 0) {
                one(m);
            }
        }
    }

    private void write(String as, String signs) {
        int t = random.nextInt(4);
        call("text", t, signs.length());
        for (int i = 0; i < signs.length(); i++) {
            if (signs.charAt(i) != ' ') {
                call("put", t, i, signs.charAt(i));
            }
        }
        call("fault", t, random.nextInt(2));
        call(as, t);
    }

    private void likelyEvent() {
        int houses = Math.max(1, whole.model.costs.size());
        int persons = Math.max(1, whole.model.homes.size());
        int keys = Math.max(1, whole.model.keys.size());
        int kind = 1 + random.nextInt(7);
        int[] firsts = {0, houses, keys, keys, keys, keys, houses, persons};
        int[] seconds = {0, persons, persons, persons, houses, houses, houses, persons};
        call("event", kind, random.nextInt(firsts[kind]), random.nextInt(seconds[kind]), random.nextInt(2));
    }

    /** A call by numbers of which most are some that there are. */
    private void one(Method m) {
        int[] given = new int[m.getParameterCount()];
        for (int i = 0; i < given.length; i++) {
            boolean flag = m.getParameterTypes()[i] == boolean.class;
            int odd = ODD[random.nextInt(ODD.length)];
            given[i] = flag ? random.nextInt(2) : random.nextInt(15) == 0 ? odd : likely(m, i);
        }
        call(m.getName(), given);
    }

    private int likely(Method m, int i) {
        int beyond = random.nextInt(8) == 0 ? 1 : 0;
        int houses = Math.max(1, whole.model.costs.size() + beyond);
        int persons = Math.max(1, whole.model.homes.size() + beyond);
        int keys = Math.max(1, whole.model.keys.size() + beyond);
        int events = Math.max(1, whole.model.events.size() + beyond);
        int bound = switch (m.getName() + i) {
            case "row0", "lay0", "at0", "tear0", "copy0", "copy2", "mean0", "safe2", "lost1" -> 6;
            case "text0", "put0", "fault0", "street0", "year0" -> 4;
            case "row1", "text1" -> 20;
            case "lay2" -> 1 << 1 + random.nextInt(30);
            case "put2" -> 300;
            case "told0", "mark0", "back0" -> events;
            case "event0", "mark1", "count0" -> 8;
            case "findings0" -> 6;
            case "house0", "suspects0", "dead0", "wake1", "odds1", "soonest1", "copies1" -> houses;
            case "person0", "trust0", "trust1", "alone0", "wake0", "odds0", "soonest0", "round0", "copies0", "lost0"
                -> persons;
            case "key0" -> keys;
            case "round1" -> 1 << houses;
            case "house1", "told1", "safe0", "copy1", "copy3", "copy4" -> 4;
            case "person1" -> 3;
            case "key1" -> 5;
            default -> 10;
        };
        int v = random.nextInt(bound);
        return m.getName().equals("lay") && i == 2 && random.nextBoolean() ? -v : v;
    }

    private void call(String call, int... given) {
        if (calls >= CALLS) {
            return;
        }
        calls++;
        long want = whole.answer(call, given);
        String told = "call " + calls + ", " + call + Arrays.toString(given);
        due.is(told, invoke(x, call, given), want);
        due.is(told + " of a second object", invoke(twin, call, given), want);
        if (want >= 0 || want < -9) {
            answered.merge(call, 1, Integer::sum);
            answeredLast.merge(call, calls == CALLS ? 1 : 0, Integer::sum);
        }
    }

    private static long invoke(StreetKeys x, String call, int[] given) {
        for (Method m : FACE) {
            if (m.getName().equals(call)) {
                Object[] args = new Object[given.length];
                for (int i = 0; i < given.length; i++) {
                    args[i] = m.getParameterTypes()[i] == boolean.class ? (Object) (given[i] == 1) : (Object) given[i];
                }
                try {
                    return ((Number) m.invoke(x, args)).longValue();
                } catch (InvocationTargetException | IllegalAccessException e) {
                    due.fail(call + Arrays.toString(given) + " threw " + e.getCause());
                    return Long.MIN_VALUE;
                }
            }
        }
        throw new IllegalArgumentException(call);
    }
}
