import java.io.IOException;
import java.lang.reflect.Constructor;
import java.lang.reflect.Field;
import java.lang.reflect.Method;
import java.lang.reflect.Modifier;
import java.nio.file.Files;
import java.nio.file.Path;
import java.util.Arrays;
import java.util.IdentityHashMap;
import java.util.Map;
import java.util.Set;
import java.util.TreeMap;
import java.util.TreeSet;
import java.util.regex.Matcher;
import java.util.regex.Pattern;

/** What of LANGUAGE.md can be seen from outside: the face, words that are ruled out, sizes. */
public final class LanguageTest {
    private static final Due due = new Due("LanguageTest");
    private static final String FACE = "row(II)I lay(III)I at(II)I tear(I)I copy(IIIII)I mean(I)I text(II)I "
        + "put(III)I fault(IZ)I street(I)I year(I)I event(IIIZ)I back(I)I told(II)I mark(II)I house(II)I "
        + "person(II)I key(II)I trust(II)I alone(I)I wake(IIZ)I odds(IIZ)I soonest(IIZ)I round(IIZ)I stuck()I "
        + "safe(III)I suspects(I)I copies(II)I dead(I)I lost(II)I asked()I upper()J lower()J count(I)I "
        + "finding()I findings(I)I digest()J";
    private static final String[] RULED_OUT = {"throw", "try", "catch", "synchronized", "assert", "import",
        "->", "::", "instanceof", "System.nanoTime", "System.currentTimeMillis", "Random", "Exact", "float",
        "double", "yield", "volatile", "native"};

    public static void main(String[] args) throws IOException {
        due.promise(1, "the face");
        face();
        due.promise(0, "LANGUAGE.md");
        String source = Files.readString(Path.of("src/main/java/StreetKeys.java"));
        String code = source.replaceAll("(?s)/\\*.*?\\*/", " ").replaceAll("//[^\n]*", " ");
        words(code);
        objectsOnlyWithTheObject(code);
        methodsAreShort(source);
        callsAreFlat(code);
        signs(source, code);
        libraryCalls(code);
        divisors(code);
        fieldTypes();
        room();
        due.end();
    }

    /** Rules 3 and 4: no text is used, and nothing but plain signs stands in the file. */
    private static void signs(String source, String code) {
        due.is("rule 4: texts in the program", code.indexOf('"'), -1);
        for (int i = 0; i < source.length(); i++) {
            char c = source.charAt(i);
            if (c != '\n' && (c < 32 || c > 126)) {
                due.fail("sign " + (int) c + " at place " + i);
            }
        }
    }

    /** Rule 4: of the library just what is listed. */
    private static void libraryCalls(String code) {
        Set<String> listed = Set.of("Math.max", "Math.min", "Integer.bitCount", "System.arraycopy", "Log.makesKey",
            "Log.isOfKind");
        Matcher m = Pattern.compile("\\b[A-Z][a-z]\\w*\\.\\w+").matcher(code);
        while (m.find()) {
            if (!listed.contains(m.group())) {
                due.fail("rule 4: " + m.group());
            }
        }
    }

    /** Rule 7: a divisor is a constant above 0, or one that its own lines have looked at. */
    private static void divisors(String code) {
        Set<String> lookedAt = Set.of("size", "common", "y");
        Matcher m = Pattern.compile("[^ ]+ [/%]=? (\\(?\\w+)").matcher(code);
        int seen = 0;
        while (m.find()) {
            seen++;
            String by = m.group(1).replace("(", "");
            if (!by.equals("SETS") && !lookedAt.contains(by)) {
                due.fail("rule 7: " + m.group());
            }
        }
        due.is("divisors seen", seen > 5 ? 1 : 0, 1);
    }

    /** Rules 2, 3 and 5: what fields there are. */
    private static void fieldTypes() {
        fieldTypes(StreetKeys.class);
        for (Class<?> inside : StreetKeys.class.getDeclaredClasses()) {
            fieldTypes(inside);
            boolean plain = !inside.isInterface() && !inside.isEnum() && !inside.isRecord();
            due.is(inside + " is a plain class", plain ? 1 : 0, 1);
        }
    }

    private static void fieldTypes(Class<?> c) {
        for (Field f : c.getDeclaredFields()) {
            Class<?> type = f.getType();
            boolean number = type == int.class || type == long.class || type == boolean.class;
            if (Modifier.isStatic(f.getModifiers()) && !(number && Modifier.isFinal(f.getModifiers()))) {
                due.fail("rule 5: " + f);
            }
            if (!number && type != int[].class && type.getEnclosingClass() != StreetKeys.class) {
                due.fail("rule 3: " + f);
            }
        }
    }

    /** Rule 12: what an object holds is small, and no call makes it hold more. */
    private static void room() {
        String street = "h9h20h3h1h2h5p0:12p1:5p2:0p3:7p4:3p5:1p-:1";
        StreetKeys x = Due.street(street, "m0>0m1>1m2>3m3>4c0>3i1@2l2@0q0/1x3m3>0");
        long[] before = new long[2];
        count(x, new IdentityHashMap<>(), before);
        x.safe(2, 9, 0);
        x.round(6, 63, true);
        x.odds(6, 5, true);
        x.lost(0, 1);
        x.digest();
        long[] after = new long[2];
        count(x, new IdentityHashMap<>(), after);
        due.is("objects behind calls", after[0], before[0]);
        due.is("fields and elements behind calls", after[1], before[1]);
        // 512 objects would still fit the room of 600,000 objects and 7.3 million fields and elements.
        due.is("few objects", before[0] < 100 ? 1 : 0, 1);
        due.is("few fields and elements", before[1] < 14000 ? 1 : 0, 1);
    }

    private static void count(Object o, Map<Object, Object> seen, long[] sums) {
        if (o == null || seen.put(o, o) != null) {
            return;
        }
        sums[0]++;
        if (o instanceof int[] row) {
            sums[1] += row.length;
            return;
        }
        for (Field f : o.getClass().getDeclaredFields()) {
            if (!Modifier.isStatic(f.getModifiers())) {
                sums[1]++;
                countField(o, f, seen, sums);
            }
        }
    }

    private static void countField(Object o, Field f, Map<Object, Object> seen, long[] sums) {
        try {
            f.setAccessible(true);
            if (!f.getType().isPrimitive()) {
                count(f.get(o), seen, sums);
            }
        } catch (IllegalAccessException e) {
            due.fail(f + " can't be read");
        }
    }

    private static void face() {
        Class<?> c = StreetKeys.class;
        due.is("public and final", c.getModifiers(), Modifier.PUBLIC | Modifier.FINAL);
        Set<String> publics = new TreeSet<>();
        Set<String> names = new TreeSet<>();
        for (Method m : c.getDeclaredMethods()) {
            if (Modifier.isPublic(m.getModifiers())) {
                publics.add(signature(m));
                names.add(m.getName());
            }
        }
        Set<String> wanted = new TreeSet<>(Arrays.asList(FACE.split(" ")));
        if (!publics.equals(wanted)) {
            due.fail("public methods are " + publics);
        }
        privateNames(c, names);
        for (Class<?> inside : c.getDeclaredClasses()) {
            due.is(inside + " is static", inside.getModifiers() & Modifier.STATIC, Modifier.STATIC);
            privateNames(inside, names);
            fewFields(inside);
        }
        fewFields(c);
        if (c.getDeclaredClasses().length >= 12) {
            due.fail("more than twelve classes");
        }
        for (Field f : c.getDeclaredFields()) {
            boolean open = Modifier.isPublic(f.getModifiers());
            boolean told = Set.of("BAD", "FULL", "FINDING", "STATE", "SPENT", "NONE").contains(f.getName());
            if (open != told || !open && !Modifier.isPrivate(f.getModifiers())) {
                due.fail("field " + f);
            }
        }
        for (Constructor<?> k : c.getDeclaredConstructors()) {
            due.is("parameters of " + k, k.getParameterCount(), 0);
        }
        long[] got = {StreetKeys.BAD, StreetKeys.FULL, StreetKeys.FINDING, StreetKeys.STATE, StreetKeys.SPENT,
            StreetKeys.NONE};
        long[] want = {-1, -2, -3, -4, -6, -9};
        for (int i = 0; i < want.length; i++) {
            due.is("constant " + i, got[i], want[i]);
        }
    }

    private static void privateNames(Class<?> c, Set<String> publicNames) {
        for (Method m : c.getDeclaredMethods()) {
            boolean open = c == StreetKeys.class && Modifier.isPublic(m.getModifiers());
            if (!open && publicNames.contains(m.getName())) {
                due.fail(m + " bears the name of a public method");
            }
            if (c == StreetKeys.class && !open && !Modifier.isPrivate(m.getModifiers())) {
                due.fail(m + " is seen from outside");
            }
            if (m.getParameterCount() > 7) {
                due.fail(m + " takes more than seven");
            }
        }
    }

    private static String signature(Method m) {
        StringBuilder s = new StringBuilder(m.getName()).append('(');
        for (Class<?> p : m.getParameterTypes()) {
            s.append(p.descriptorString());
        }
        return s.append(')').append(m.getReturnType().descriptorString()).toString();
    }

    private static void words(String code) {
        for (String word : RULED_OUT) {
            boolean plain = Character.isLetter(word.charAt(0));
            Pattern p = Pattern.compile(plain ? "\\b" + Pattern.quote(word) : Pattern.quote(word));
            if (p.matcher(code).find()) {
                due.fail("the program has '" + word + "'");
            }
        }
    }

    /** So that no run of calls fills the room. */
    private static void objectsOnlyWithTheObject(String code) {
        Matcher m = Pattern.compile("[^\n]*\\bnew\\b[^\n]*").matcher(code);
        while (m.find()) {
            String line = m.group().trim();
            if (!line.matches("(private |final )*(int\\[\\] )?\\w+ = new (int\\[[^\\]]*\\]|\\w+\\([^()]*\\));")) {
                due.fail("something may be made in a call: " + line);
            }
        }
    }

    private static void methodsAreShort(String source) {
        int start = -1;
        String[] lines = source.split("\n");
        for (int i = 0; i < lines.length; i++) {
            if (lines[i].matches("( {4}| {8})[\\w].*\\) \\{")) {
                start = i;
            }
            if (lines[i].matches("( {4}| {8})\\}") && start >= 0) {
                if (i - start > 60) {
                    due.fail("a method of more than sixty lines: " + lines[start].trim());
                }
                start = -1;
            }
        }
    }

    private static void fewFields(Class<?> c) {
        long fields = Arrays.stream(c.getDeclaredFields()).filter(f -> !Modifier.isStatic(f.getModifiers())).count();
        if (fields > 20) {
            due.fail(c + " has " + fields + " fields");
        }
    }

    /** By names alone, methods of one name taken together: so rather too deep than not deep enough. */
    private static void callsAreFlat(String code) {
        Map<String, Set<String>> calls = new TreeMap<>();
        String name = "";
        for (String line : code.split("\n")) {
            Matcher head = Pattern.compile("( {4}| {8})[\\w].*?(\\w+)\\([^()]*\\) \\{").matcher(line);
            if (head.matches() && !line.matches(" *(if|for|switch|while).*")) {
                name = head.group(2);
                calls.computeIfAbsent(name, n -> new TreeSet<>());
            } else if (calls.containsKey(name)) {
                Matcher call = Pattern.compile("(\\w+)\\(").matcher(line);
                while (call.find()) {
                    calls.get(name).add(call.group(1));
                }
            }
        }
        due.is("enough methods seen", calls.size() > 90 ? 1 : 0, 1);
        for (String from : calls.keySet()) {
            String path = deepest(calls, from, 0);
            if (path.split(" ").length > 8) {
                due.fail("calls go too deep: " + path);
            }
        }
    }

    private static String deepest(Map<String, Set<String>> calls, String from, int depth) {
        String longest = "";
        if (depth < 20) {
            for (String to : calls.getOrDefault(from, Set.of())) {
                String path = calls.containsKey(to) ? deepest(calls, to, depth + 1) : "";
                longest = path.split(" ").length > longest.split(" ").length || longest.isEmpty() ? path : longest;
            }
        }
        return (from + " " + longest).trim();
    }
}
