import java.lang.reflect.InvocationTargetException;
import java.lang.reflect.Method;
import java.lang.reflect.Modifier;
import java.util.Arrays;
import java.util.Comparator;
import java.util.Set;
import java.util.TreeSet;

/**
 * A test of its own for each sentence that names a boundary case. A test is a static method without
 * parameters whose name begins with the promise's number (promise06_..) or with that of the Terms
 * (terms_.., terms1_.., terms2_.., terms3_..).
 */
public final class EdgeTest {
    static final Due due = new Due("EdgeTest");

    private static final Class<?>[] ALL = {TermsEdges.class, TextEdges.class, KeyEdges.class, RowEdges.class,
        EventEdges.class, StateEdges.class, ComingEdges.class, PlanEdges.class, TellingEdges.class};

    public static void main(String[] args) throws IllegalAccessException {
        Set<String> seen = new TreeSet<>();
        int tests = 0;
        for (Class<?> edges : ALL) {
            Method[] methods = edges.getDeclaredMethods();
            Arrays.sort(methods, Comparator.comparing(Method::getName));
            for (Method m : methods) {
                if (m.getName().matches("(terms[123]?|promise\\d\\d)_\\w+") && Modifier.isStatic(m.getModifiers())) {
                    seen.add(m.getName().substring(0, m.getName().indexOf('_')));
                    tests++;
                    run(m);
                }
            }
        }
        due.name("EdgeTest");
        for (String part : new String[] {"terms", "terms1", "terms2", "terms3"}) {
            due.is("tests of " + part, seen.contains(part) ? 1 : 0, 1);
        }
        for (int promise = 1; promise <= 38; promise++) {
            String part = String.format("promise%02d", promise);
            due.is("tests of " + part, seen.contains(part) ? 1 : 0, 1);
        }
        System.out.println("EdgeTest: " + tests + " tests");
        due.end();
    }

    private static void run(Method m) throws IllegalAccessException {
        due.name(m.getName());
        try {
            m.invoke(null);
        } catch (InvocationTargetException e) {
            due.fail("threw " + e.getCause());
        }
    }
}
