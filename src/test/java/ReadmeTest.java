import java.io.IOException;
import java.lang.reflect.Method;
import java.lang.reflect.Modifier;
import java.net.URL;
import java.net.URLClassLoader;
import java.nio.file.Files;
import java.nio.file.Path;
import java.util.List;
import java.util.regex.Matcher;
import java.util.regex.Pattern;
import java.util.stream.Stream;
import javax.tools.ToolProvider;

/** README.md as it stands: its calls are compiled, and answer what is written behind them; it names all calls and tests. */
public final class ReadmeTest {
    private static final Checks C = new Checks("ReadmeTest");
    /** A call with its answer behind it. */
    private static final Pattern ANSWERED = Pattern.compile("(?m)^(int (\\w+) = )?(x\\.[^;\n]*);\\s*// (-?\\d+).*$");

    public static void main(String[] args) throws Exception {
        String page = Files.readString(Path.of("README.md"));
        callsAnswer(page);
        namesAllCalls(page);
        namesAllTests(page);
        C.end();
    }

    /** A line of README.md, as it is compiled, tells its answer here. */
    public static void due(String call, long got, long want) {
        C.due(call, got, want);
    }

    private static void callsAnswer(String page) throws Exception {
        Matcher block = Pattern.compile("(?s)```java\n(.*?)```").matcher(page);
        C.due("there are calls", block.find() ? 1 : 0, 1);
        String calls = block.group(1);
        long answered = ANSWERED.matcher(calls).results().count(), all = calls.lines().count();
        C.due("lines without an answer: the object, and two that feed", all - answered, 3);
        run(ANSWERED.matcher(calls).replaceAll(line -> withTest(line.group(2), line.group(3), line.group(4))));
    }

    private static String withTest(String name, String call, String answer) {
        String said = "ReadmeTest.due(\"" + call + "\", ", end = ", " + answer + "L);";
        return name == null ? said + call + end : "int " + name + " = " + call + "; " + said + name + end;
    }

    private static void run(String calls) throws Exception {
        Path work = Files.createTempDirectory("readme"), file = work.resolve("Example.java");
        try {
            Files.writeString(file, "public class Example { public static void calls() {\n" + calls + "} }\n");
            String[] how = {"-cp", System.getProperty("java.class.path"), "-d", work.toString(), file.toString()};
            C.due("compiled", ToolProvider.getSystemJavaCompiler().run(null, null, null, how), 0);
            try (URLClassLoader loader = new URLClassLoader(new URL[] {work.toUri().toURL()})) {
                loader.loadClass("Example").getMethod("calls").invoke(null);
            }
        } finally {
            Files.deleteIfExists(work.resolve("Example.class"));
            Files.deleteIfExists(file);
            Files.deleteIfExists(work);
        }
    }

    private static void namesAllCalls(String page) {
        for (Method m : MatFlip.class.getDeclaredMethods()) {
            if (Modifier.isPublic(m.getModifiers())) C.due("names " + m.getName(), page.contains("`" + m.getName() + "`") ? 1 : 0, 1);
        }
    }

    private static void namesAllTests(String page) throws IOException {
        List<String> there;
        try (Stream<Path> files = Files.list(Path.of("src/test/java"))) {
            there = files.map(file -> file.getFileName().toString()).filter(name -> name.endsWith("Test.java"))
                .map(name -> name.replace(".java", "")).sorted().toList();
        }
        List<String> named = Pattern.compile("(?m)^- `(\\w+Test)`").matcher(page).results().map(line -> line.group(1)).sorted().toList();
        C.due("tests named: " + named + ", tests there: " + there, named.equals(there) ? 1 : 0, 1);
    }
}
