import java.lang.reflect.Method;
import java.lang.reflect.Modifier;
import java.util.Map;
import java.util.TreeMap;

/**
 * A new object whose calls are told as texts, so that a test names a call and what is due just once.
 * It takes no more than 512 calls: what later ones answer is free.
 */
final class Trial {
    static final int BAD = -1, FULL = -2, FINDING = -3, STATE = -4, NONE = -9;
    static final int NOTHING = 1, BEYOND = 2, UNLIKE = 3, NOUGHT = 4, SIZE = 5;

    private static final Map<String, Method> CALLS = new TreeMap<>();
    private static final int MOST_CALLS = 512;

    private final StreetKeys x = new StreetKeys();
    private final Due due = EdgeTest.due;
    private int calls;

    static {
        for (Method m : StreetKeys.class.getDeclaredMethods()) {
            if (Modifier.isPublic(m.getModifiers())) {
                CALLS.put(m.getName(), m);
            }
        }
    }

    /** A STREET by TEXT 0, and EVENTS by TEXT 1. */
    static Trial of(String street, String... years) {
        Trial t = new Trial();
        t.write(0, street);
        t.not(t.call("street(0)") < 0, "a street: " + street);
        for (String year : years) {
            t.years(year);
        }
        return t;
    }

    long call(String text) {
        int open = text.indexOf('(');
        String inside = text.substring(open + 1, text.length() - 1).trim();
        String[] told = inside.isEmpty() ? new String[0] : inside.split(" *, *");
        Method m = CALLS.get(text.substring(0, open));
        Object[] given = new Object[told.length];
        for (int i = 0; i < told.length; i++) {
            given[i] = m.getParameterTypes()[i] == boolean.class ? (Object) told[i].equals("true") : number(told[i]);
        }
        calls++;
        not(calls > MOST_CALLS, "more than 512 calls on one object: " + text);
        try {
            return ((Number) m.invoke(x, given)).longValue();
        } catch (ReflectiveOperationException | IllegalArgumentException e) {
            due.fail(text + " threw " + (e.getCause() == null ? e : e.getCause()));
            return Long.MIN_VALUE;
        }
    }

    private static Object number(String told) {
        return told.equals("MIN") ? Integer.MIN_VALUE : told.equals("MAX") ? Integer.MAX_VALUE : Integer.parseInt(told);
    }

    private void not(boolean wrong, String what) {
        if (wrong) {
            due.fail(what);
        }
    }

    Trial write(int t, String signs) {
        call("text(" + t + ", " + signs.length() + ")");
        for (int i = 0; i < signs.length(); i++) {
            if (signs.charAt(i) != ' ') {
                call("put(" + t + ", " + i + ", " + (int) signs.charAt(i) + ")");
            }
        }
        return this;
    }

    Trial years(String signs) {
        write(1, signs);
        not(call("year(1)") < 0, "a year: " + signs);
        return this;
    }

    /** Calls that change nothing, until as many as told have been made. */
    Trial idleTo(int told) {
        for (int i = calls; i < told; i++) {
            call("count(" + i % 8 + ")");
        }
        return this;
    }

    Trial says(String call, long want) {
        due.is(call, call(call), want);
        return this;
    }

    /** The answer, and what asked() tells behind it. */
    Trial tells(String call, long want, long asked) {
        says(call, want);
        due.is(call + ", asked()", call("asked()"), asked);
        return this;
    }

    Trial tells(String call, long asked) {
        return tells(call, 1, asked);
    }

    /** How many he can WAKE, and the ODDS. */
    Trial odds(String call, long want, long upper, long lower) {
        says(call, want);
        due.is(call + ", upper()", call("upper()"), upper);
        due.is(call + ", lower()", call("lower()"), lower);
        return this;
    }

    /** BAD, FULL, STATE or NONE, by which nothing at all changes. */
    Trial refuses(String call, int want) {
        long[] before = state();
        says(call, want);
        long[] after = state();
        for (int i = 0; i < before.length; i++) {
            due.is(call + " leaves " + NAMES[i], after[i], before[i]);
        }
        return this;
    }

    /** A FINDING, by which nothing but finding() and its own findings() changes. */
    Trial finds(String call, int finding) {
        long[] before = state();
        says(call, FINDING);
        before[FIRST_FINDING - 1] = finding;
        before[FIRST_FINDING - 1 + finding]++;
        long[] after = state();
        for (int i = 0; i < before.length; i++) {
            due.is(call + " with " + NAMES[i], after[i], before[i]);
        }
        return this;
    }

    private static final int FIRST_FINDING = 5;
    private static final String[] NAMES = {"digest()", "asked()", "upper()", "lower()", "finding()",
        "findings(1)", "findings(2)", "findings(3)", "findings(4)", "findings(5)"};

    private long[] state() {
        long[] state = new long[NAMES.length];
        for (int i = 0; i < NAMES.length; i++) {
            state[i] = call(NAMES[i]);
        }
        return state;
    }

    /** # stands for a number: the least and the most are taken, those beyond are BAD. */
    Trial takes(String call, int least, int most) {
        for (int v : new int[] {least, most}) {
            String good = call.replace("#", "" + v);
            long answer = call(good);
            not(answer < 0 && answer != NONE, good + " was refused: " + answer);
        }
        for (String v : new String[] {"" + (least - 1), "" + (most + 1), "MIN", "MAX"}) {
            refuses(call.replace("#", v), BAD);
        }
        return this;
    }

    /** All places of a ROW, and no more. */
    Trial rowIs(int r, int... places) {
        for (int i = 0; i < places.length; i++) {
            tells("at(" + r + ", " + i + ")", places[i]);
        }
        return says("at(" + r + ", " + places.length + ")", FINDING).says("finding()", BEYOND);
    }

    Trial row(int r, int... places) {
        says("row(" + r + ", " + places.length + ")", places.length);
        for (int i = 0; i < places.length; i++) {
            says("lay(" + r + ", " + i + ", " + places[i] + ")", 1);
        }
        return this;
    }

    /** A FAULT of a STREET, and street() that goes by it. */
    static void streetFault(String signs, int place) {
        Trial t = new Trial().write(2, signs).says("fault(2, false)", place);
        EdgeTest.due.is("street of '" + signs + "' refused", t.call("street(2)") == STATE ? 1 : 0,
            place == NONE ? 0 : 1);
    }

    /** A FAULT of a YEAR behind all EVENTS that there are, and year() that goes by it. */
    Trial yearFault(String signs, int place) {
        long events = call("count(4)");
        write(2, signs);
        due.is("fault of '" + signs + "'", call("fault(2, true)"), place);
        long came = call("year(2)");
        due.is("year of '" + signs + "' refused", came == STATE ? 1 : 0, place == NONE ? 0 : 1);
        return says("back(" + events + ")", Math.max(0, came));
    }
}
