import java.io.IOException;
import java.lang.reflect.Constructor;
import java.lang.reflect.Field;
import java.lang.reflect.Method;
import java.lang.reflect.Modifier;
import java.nio.file.Files;
import java.nio.file.Path;
import java.util.Arrays;
import java.util.Map;
import java.util.Set;
import java.util.TreeMap;
import java.util.TreeSet;
import java.util.regex.Matcher;
import java.util.regex.Pattern;

/** What of LANGUAGE.md can be seen from outside: the face, words that are ruled out, sizes. */
public final class LanguageTest {
    private static final Due due = new Due("LanguageTest");
    private static final String FACE = "row(II)I lay(III)I at(II)I tear(I)I copy(IIIII)I mean(I)I text(II)I "
        + "put(III)I fault(IZ)I street(I)I year(I)I event(IIIZ)I back(I)I told(II)I mark(II)I house(II)I "
        + "person(II)I key(II)I trust(II)I alone(I)I wake(IIZ)I odds(IIZ)I soonest(IIZ)I round(IIZ)I stuck()I "
        + "safe(III)I suspects(I)I copies(II)I dead(I)I lost(II)I asked()I upper()J lower()J count(I)I "
        + "finding()I findings(I)I digest()J";
    private static final String[] RULED_OUT = {"throw", "try", "catch", "synchronized", "assert", "import",
        "->", "::", "instanceof", "System.nanoTime", "System.currentTimeMillis", "Random", "Exact", "float",
        "double", "yield", "volatile", "native"};

    public static void main(String[] args) throws IOException {
        due.promise(1, "the face");
        face();
        due.promise(0, "LANGUAGE.md");
        String source = Files.readString(Path.of("src/main/java/StreetKeys.java"));
        String code = source.replaceAll("(?s)/\\*.*?\\*/", " ").replaceAll("//[^\n]*", " ");
        words(code);
        objectsOnlyWithTheObject(code);
        methodsAreShort(source);
        callsAreFlat(code);
        due.end();
    }

    private static void face() {
        Class<?> c = StreetKeys.class;
        due.is("public and final", c.getModifiers(), Modifier.PUBLIC | Modifier.FINAL);
        Set<String> publics = new TreeSet<>();
        Set<String> names = new TreeSet<>();
        for (Method m : c.getDeclaredMethods()) {
            if (Modifier.isPublic(m.getModifiers())) {
                publics.add(signature(m));
                names.add(m.getName());
            }
        }
        Set<String> wanted = new TreeSet<>(Arrays.asList(FACE.split(" ")));
        if (!publics.equals(wanted)) {
            due.fail("public methods are " + publics);
        }
        privateNames(c, names);
        for (Class<?> inside : c.getDeclaredClasses()) {
            due.is(inside + " is static", inside.getModifiers() & Modifier.STATIC, Modifier.STATIC);
            privateNames(inside, names);
            fewFields(inside);
        }
        fewFields(c);
        if (c.getDeclaredClasses().length >= 12) {
            due.fail("more than twelve classes");
        }
        for (Field f : c.getDeclaredFields()) {
            boolean open = Modifier.isPublic(f.getModifiers());
            boolean told = Set.of("BAD", "FULL", "FINDING", "STATE", "SPENT", "NONE").contains(f.getName());
            if (open != told || !open && !Modifier.isPrivate(f.getModifiers())) {
                due.fail("field " + f);
            }
        }
        for (Constructor<?> k : c.getDeclaredConstructors()) {
            due.is("parameters of " + k, k.getParameterCount(), 0);
        }
        long[] got = {StreetKeys.BAD, StreetKeys.FULL, StreetKeys.FINDING, StreetKeys.STATE, StreetKeys.SPENT,
            StreetKeys.NONE};
        long[] want = {-1, -2, -3, -4, -6, -9};
        for (int i = 0; i < want.length; i++) {
            due.is("constant " + i, got[i], want[i]);
        }
    }

    private static void privateNames(Class<?> c, Set<String> publicNames) {
        for (Method m : c.getDeclaredMethods()) {
            boolean open = c == StreetKeys.class && Modifier.isPublic(m.getModifiers());
            if (!open && publicNames.contains(m.getName())) {
                due.fail(m + " bears the name of a public method");
            }
            if (c == StreetKeys.class && !open && !Modifier.isPrivate(m.getModifiers())) {
                due.fail(m + " is seen from outside");
            }
            if (m.getParameterCount() > 7) {
                due.fail(m + " takes more than seven");
            }
        }
    }

    private static String signature(Method m) {
        StringBuilder s = new StringBuilder(m.getName()).append('(');
        for (Class<?> p : m.getParameterTypes()) {
            s.append(p.descriptorString());
        }
        return s.append(')').append(m.getReturnType().descriptorString()).toString();
    }

    private static void words(String code) {
        for (String word : RULED_OUT) {
            boolean plain = Character.isLetter(word.charAt(0));
            Pattern p = Pattern.compile(plain ? "\\b" + Pattern.quote(word) : Pattern.quote(word));
            if (p.matcher(code).find()) {
                due.fail("the program has '" + word + "'");
            }
        }
    }

    /** So that no run of calls fills the room. */
    private static void objectsOnlyWithTheObject(String code) {
        Matcher m = Pattern.compile("[^\n]*\\bnew\\b[^\n]*").matcher(code);
        while (m.find()) {
            String line = m.group().trim();
            if (!line.matches("(private |final )*(int\\[\\] )?\\w+ = new (int\\[[^\\]]*\\]|\\w+\\([^()]*\\));")) {
                due.fail("something may be made in a call: " + line);
            }
        }
    }

    private static void methodsAreShort(String source) {
        int start = -1;
        String[] lines = source.split("\n");
        for (int i = 0; i < lines.length; i++) {
            if (lines[i].matches("( {4}| {8})[\\w].*\\) \\{")) {
                start = i;
            }
            if (lines[i].matches("( {4}| {8})\\}") && start >= 0) {
                if (i - start > 60) {
                    due.fail("a method of more than sixty lines: " + lines[start].trim());
                }
                start = -1;
            }
        }
    }

    private static void fewFields(Class<?> c) {
        long fields = Arrays.stream(c.getDeclaredFields()).filter(f -> !Modifier.isStatic(f.getModifiers())).count();
        if (fields > 20) {
            due.fail(c + " has " + fields + " fields");
        }
    }

    /** By names alone, methods of one name taken together: so rather too deep than not deep enough. */
    private static void callsAreFlat(String code) {
        Map<String, Set<String>> calls = new TreeMap<>();
        String name = "";
        for (String line : code.split("\n")) {
            Matcher head = Pattern.compile("( {4}| {8})[\\w].*?(\\w+)\\([^()]*\\) \\{").matcher(line);
            if (head.matches() && !line.matches(" *(if|for|switch|while).*")) {
                name = head.group(2);
                calls.computeIfAbsent(name, n -> new TreeSet<>());
            } else if (calls.containsKey(name)) {
                Matcher call = Pattern.compile("(\\w+)\\(").matcher(line);
                while (call.find()) {
                    calls.get(name).add(call.group(1));
                }
            }
        }
        due.is("enough methods seen", calls.size() > 90 ? 1 : 0, 1);
        for (String from : calls.keySet()) {
            String path = deepest(calls, from, 0);
            if (path.split(" ").length > 8) {
                due.fail("calls go too deep: " + path);
            }
        }
    }

    private static String deepest(Map<String, Set<String>> calls, String from, int depth) {
        String longest = "";
        if (depth < 20) {
            for (String to : calls.getOrDefault(from, Set.of())) {
                String path = calls.containsKey(to) ? deepest(calls, to, depth + 1) : "";
                longest = path.split(" ").length > longest.split(" ").length || longest.isEmpty() ? path : longest;
            }
        }
        return (from + " " + longest).trim();
    }
}
