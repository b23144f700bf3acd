import java.io.IOException;
import java.lang.reflect.Constructor;
import java.lang.reflect.Field;
import java.lang.reflect.Method;
import java.lang.reflect.Modifier;
import java.nio.file.Files;
import java.nio.file.Path;
import java.util.ArrayList;
import java.util.Arrays;
import java.util.List;
import java.util.TreeSet;
import java.util.regex.Matcher;
import java.util.regex.Pattern;

/**
 * What stands around the promises in ../shared/DOC.md, from its first line to its last: the headings, "What it is",
 * the public face with its constants, what the interface says ahead of the calls, the promises' own lines of it,
 * and "Not promised". The words of "Terms" and of the promises are held by EdgesTest.
 */
public final class DocumentTest {
    private static final Checks C = new Checks("DocumentTest");
    private static final int PROMISES = 38;
    private static final Pattern NAME = Pattern.compile("(\\w+)\\(");

    public static void main(String[] args) throws IOException {
        String document = Files.readString(Path.of("../shared/DOC.md"));
        String source = Files.readString(Path.of("src/main/java/MatFlip.java"));
        List<String> face = face(document);
        headings(document, face);
        promisesOwnLines(document, face);
        inTheSource(source, face);
        inTheClass(face);
        constants(document, source);
        whatTheInterfaceSays(document, source);
        aroundThePromises(document);
        calls();
        twoObjects();
        C.end();
    }

    private static void same(String what, Object got, Object want) {
        C.due(what + " is " + got + ", and should be " + want, got.equals(want) ? 1 : 0, 1);
    }

    /** The lines of the face behind its first and ahead of its last. */
    private static List<String> face(String document) {
        Matcher block = Pattern.compile("(?s)## The public face\n+```java\n(.*?)\n}\n```").matcher(document);
        same("there is a face", block.find(), true);
        List<String> lines = new ArrayList<>();
        for (String line : block.group(1).split("\n")) lines.add(line.trim());
        same("its first line", lines.remove(0), "public final class MatFlip {");
        return lines;
    }

    private static String nameOf(String line) {
        Matcher name = NAME.matcher(line);
        return name.find() ? name.group(1) : "";
    }

    /** The calls' names in their order. */
    private static List<String> calls(List<String> face) {
        List<String> names = new ArrayList<>();
        for (String line : face) names.add(nameOf(line));
        names.removeIf(name -> name.isEmpty() || name.equals("MatFlip"));
        return names;
    }

    private static void headings(String document, List<String> face) {
        List<String> want = new ArrayList<>(List.of("# MatFlip", "## What it is", "## The public face", "## Terms"));
        want.add("## Promise 1: A new object");
        for (String name : calls(face)) want.add("## Promise " + (want.size() - 3) + ": " + name);
        want.add("## Not promised");
        List<String> got = new ArrayList<>();
        for (String line : document.split("\n")) {
            if (line.startsWith("#")) got.add(line);
        }
        same("the headings", got, want);
        same("how many promises", calls(face).size() + 1, PROMISES);
    }

    /** Each promise begins with its line of the face. */
    private static void promisesOwnLines(String document, List<String> face) {
        List<String> got = new ArrayList<>(), want = new ArrayList<>();
        Matcher promises = Pattern.compile("## Promise \\d+: [^\n]*\n+`([^`]*)`: ").matcher(document);
        while (promises.find()) got.add("public " + promises.group(1) + ";");
        for (String line : face) {
            if (!nameOf(line).isEmpty()) want.add(line);
        }
        same("the promises' own lines", got, want);
    }

    /** The public lines of the source, with the names of what is told to the calls. */
    private static void inTheSource(String source, List<String> face) {
        List<String> got = new ArrayList<>();
        Matcher lines = Pattern.compile("(?m)^    (public .*?)( \\{|;)$").matcher(source);
        while (lines.find()) got.add(lines.group(1) + ";");
        same("the public lines", got, face);
        same("the class", source.contains("\npublic final class MatFlip {\n"), true);
    }

    private static void inTheClass(List<String> face) {
        TreeSet<String> got = new TreeSet<>(), want = new TreeSet<>();
        for (String line : face) {
            if (!nameOf(line).isEmpty()) want.add(line.replaceAll("int \\w+(?=[,)])", "int"));
        }
        for (Method m : MatFlip.class.getDeclaredMethods()) {
            String types = Arrays.toString(m.getParameterTypes()).replaceAll("[\\[\\]]", "");
            if (!Modifier.isPrivate(m.getModifiers())) got.add("public " + m.getReturnType() + " " + m.getName() + "(" + types + ");");
            same(m.getName() + " is static", Modifier.isPublic(m.getModifiers()) && Modifier.isStatic(m.getModifiers()), false);
        }
        for (Constructor<?> k : MatFlip.class.getDeclaredConstructors()) {
            got.add((Modifier.isPublic(k.getModifiers()) ? "public " : "") + "MatFlip(" + (k.getParameterCount() == 0 ? "" : "?") + ");");
        }
        same("the class's face", got, want);
    }

    private static void constants(String document, String source) {
        C.due("NONE", MatFlip.NONE, -1);
        C.due("BAD", MatFlip.BAD, -2);
        C.due("STATE", MatFlip.STATE, -3);
        C.due("FULL", MatFlip.FULL, -4);
        C.due("NO", MatFlip.NO, Long.MIN_VALUE);
        for (Field f : MatFlip.class.getDeclaredFields()) {
            int is = f.getModifiers();
            if (!Modifier.isPrivate(is)) same(f + "", is, Modifier.PUBLIC | Modifier.STATIC | Modifier.FINAL);
        }
        same("there is a sentence of NO", document.contains("\nThe constants: `NO = Long.MIN_VALUE`: There is no such number.\n"), true);
        same("the source says it", source.contains("/** There is no such number. */\n    public static final long NO ="), true);
    }

    /** The words ahead of the calls, and the calls behind them, stand in the source in the same order. */
    private static void whatTheInterfaceSays(String document, String source) {
        List<String> got = new ArrayList<>(), want = new ArrayList<>();
        Matcher sentences = Pattern.compile("\nAhead of the calls (.*) the interface says: (---- .*)\\.\n").matcher(document);
        while (sentences.find()) {
            want.add(sentences.group(2));
            want.addAll(List.of(sentences.group(1).replace("`", "").split(", ")));
        }
        Matcher lines = Pattern.compile("(?m)^    (?:// (---- .*)|public (?:int|long) (\\w+)\\(.*)$").matcher(source);
        while (lines.find() && got.size() < want.size()) got.add(lines.group(1) == null ? lines.group(2) : lines.group(1));
        same("what the interface says", got, want);
    }

    /** Should these sentences change, the tests below and README.md are to be read beside them. */
    private static void aroundThePromises(String document) {
        for (String words : new String[] {
            "\nMats off the edge: players who strike piles of beer mats up from the edge of a table and catch them, by force",
            "\nAn object is used for at most 512 calls after it has been made; what later calls answer is free.\n",
            "\nHow the state is held inside the object is free, as are the speed of each call, the text of toString and the"
                + " behaviour of equals and hashCode. Use of one object from several threads at once is not promised to be"
                + " safe. Nothing is promised beyond the answers and state changes described above, and nothing about an"
                + " object after its 512th call.\n"}) {
            same("there is '" + words.trim() + "'", document.contains(words), true);
        }
    }

    /** The last of 512 calls is answered as the first one; later ones answer something, and don't throw. */
    private static void calls() {
        MatFlip x = new MatFlip();
        x.player(0, 0, 20, 9, 100);
        for (int call = 2; call < 512; call++) C.due("call " + call, x.go(0, 20, 12, 4), 20);
        C.due("call 512", x.told(0), 510);
        for (int call = 513; call < 12_000; call++) x.go(0, 20, 12, 4);
        for (int call = 0; call < 600; call++) {
            x.feed('p');
            x.inn();
            x.player(call % 7, 0, 0, 1, 0);
            x.see(0, 1, 1, 1);
            x.book(0, 1);
            x.act(call % 6, call % 3, call);
            x.image();
            x.undo();
        }
        C.due("players behind all of that", x.count(0), 6);
    }

    /** What is called on one object is no matter to another one. */
    private static void twoObjects() {
        long[] alone = Whole.told(Whole.rich());
        MatFlip x = Whole.rich(), y = Whole.full(), z = new MatFlip();
        Whole.told(y);
        y.act(3, 1, 9);
        y.go(1, 10, 11, 4);
        C.dueAll("an object beside others", Whole.told(x), alone);
        C.due("one without players", z.count(0) + z.count(1) + z.count(5), 0);
        C.due("one without an image", z.undo(), MatFlip.STATE);
    }
}
