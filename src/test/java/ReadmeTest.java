import java.io.ByteArrayOutputStream;
import java.io.IOException;
import java.io.PrintStream;
import java.lang.reflect.InvocationTargetException;
import java.net.URL;
import java.net.URLClassLoader;
import java.nio.charset.StandardCharsets;
import java.nio.file.Files;
import java.nio.file.Path;
import java.util.ArrayList;
import java.util.List;
import java.util.regex.Matcher;
import java.util.regex.Pattern;
import java.util.stream.Stream;
import javax.tools.ToolProvider;

/** The run that README.md shows, as a reader would try it, and what it says of the tests. */
public final class ReadmeTest {
    private static final Due due = new Due("ReadmeTest");
    private static final Pattern PROGRAM = Pattern.compile("(?s)```java\n(.*?)```");
    private static final Pattern SAID = Pattern.compile("say\\((x\\..*)\\); *// (-?\\d+)\\b.*");
    private static final Path FOLDER = Path.of("build", "readme");

    public static void main(String[] args) throws IOException, ReflectiveOperationException {
        due.name("README.md");
        String page = Files.readString(Path.of("README.md"));
        Matcher m = PROGRAM.matcher(page);
        int programs = 0;
        while (m.find()) {
            programs++;
            answersAsShown(m.group(1));
        }
        due.is("programs shown", programs, 1);
        testsAreNamed(page);
        due.end();
    }

    private static void answersAsShown(String program) throws IOException, ReflectiveOperationException {
        List<String> calls = new ArrayList<>();
        List<Long> shown = new ArrayList<>();
        for (String line : program.split("\n")) {
            Matcher said = SAID.matcher(line.trim());
            if (said.matches()) {
                calls.add(said.group(1));
                shown.add(Long.parseLong(said.group(2)));
            } else if (line.contains("say(x")) {
                due.fail("no answer is shown behind " + line.trim());
            }
        }
        due.is("calls with answers", calls.size() >= 20 ? 1 : 0, 1);
        String[] printed = printedBy(program).split("\\R");
        due.is("lines printed", printed.length, shown.size());
        for (int i = 0; i < printed.length && i < shown.size(); i++) {
            due.is(calls.get(i), Long.parseLong(printed[i]), shown.get(i));
        }
    }

    private static String printedBy(String program) throws IOException, ReflectiveOperationException {
        Files.createDirectories(FOLDER);
        Path file = FOLDER.resolve("Try.java");
        Files.writeString(file, program);
        int refused = ToolProvider.getSystemJavaCompiler().run(null, null, null, "--release", "17", "-d",
            FOLDER.toString(), "src/main/java/StreetKeys.java", file.toString());
        due.is("the compiler's refusal", refused, 0);
        PrintStream before = System.out;
        ByteArrayOutputStream printed = new ByteArrayOutputStream();
        try (URLClassLoader loader = new URLClassLoader(new URL[] {FOLDER.toUri().toURL()}, null)) {
            System.setOut(new PrintStream(printed, true, StandardCharsets.UTF_8));
            loader.loadClass("Try").getMethod("main", String[].class).invoke(null, (Object) new String[0]);
        } catch (InvocationTargetException e) {
            due.fail("the program threw " + e.getCause());
        } finally {
            System.setOut(before);
        }
        return printed.toString(StandardCharsets.UTF_8);
    }

    private static void testsAreNamed(String page) throws IOException {
        due.is(".ci/run is named", page.contains("\n.ci/run\n") ? 1 : 0, 1);
        due.is(".ci/run can be run", Files.isExecutable(Path.of(".ci", "run")) ? 1 : 0, 1);
        try (Stream<Path> files = Files.list(Path.of("src", "test", "java"))) {
            files.map(f -> f.getFileName().toString()).filter(f -> f.endsWith("Test.java")).sorted()
                .forEach(f -> due.is(f + " is named", page.contains("src/test/java/" + f) ? 1 : 0, 1));
        }
    }
}
