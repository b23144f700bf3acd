import java.io.IOException;
import java.lang.reflect.Constructor;
import java.lang.reflect.Field;
import java.lang.reflect.Method;
import java.lang.reflect.Modifier;
import java.nio.file.Files;
import java.nio.file.Path;
import java.util.ArrayList;
import java.util.List;
import java.util.Set;
import java.util.TreeSet;
import java.util.regex.Matcher;
import java.util.regex.Pattern;

/** Those rules of ../shared/LANGUAGE.md that can be seen from the class or its text, and the document's face. */
public final class LanguageTest {
    private static final Checks C = new Checks("LanguageTest");
    private static final String FACE = "feed1 inn0 player5 of2 set3 row3 told1 pile4 would4 go4 odds3 mean4 best3 most1 "
        + "learns1 plan3 first2 more4 record2 raise6 wager3 glass2 stuck2 floor4 order1 title1 see4 can1 skills1 book2 "
        + "looked0 act3 trace1 as2 image0 undo0 count1";
    private static final String FORBIDDEN = "throw try catch synchronized assert import native Object Exception double "
        + "float toString equals hashCode valueOf System.out Thread Random currentTimeMillis nanoTime @Override";
    private static final Set<String> LONGS = Set.of("mean", "plan", "more", "raise", "floor");
    private static final Set<Class<?>> PLAIN = Set.of(int.class, long.class, boolean.class, char.class, String.class,
        int[].class, long[].class, char[].class, byte[].class);

    public static void main(String[] args) throws IOException {
        face();
        classes();
        text(Files.readString(Path.of("src/main/java/MatFlip.java")));
        C.end();
    }

    private static void no(String what, boolean there) {
        C.due("rule: " + what, there ? 1 : 0, 0);
    }

    private static void face() {
        Set<String> due = new TreeSet<>(List.of(FACE.split(" "))), methods = new TreeSet<>();
        Set<String> publicNames = new TreeSet<>();
        for (Method m : MatFlip.class.getDeclaredMethods()) {
            if (!Modifier.isPublic(m.getModifiers())) {
                no("neither public nor private: " + m, !Modifier.isPrivate(m.getModifiers()));
                continue;
            }
            methods.add(m.getName() + m.getParameterCount());
            publicNames.add(m.getName());
            no("type of " + m, m.getReturnType() != (LONGS.contains(m.getName()) ? long.class : int.class));
            for (Class<?> type : m.getParameterTypes()) no("argument of " + m, type != int.class);
        }
        no("another face: " + methods, !methods.equals(due));
        for (Class<?> c : all()) {
            for (Method m : c.getDeclaredMethods()) {
                no("the name of a public one: " + m, !Modifier.isPublic(m.getModifiers()) && publicNames.contains(m.getName()));
            }
        }
        Set<String> constants = new TreeSet<>();
        for (Field f : MatFlip.class.getDeclaredFields()) {
            if (Modifier.isPublic(f.getModifiers())) constants.add(f.getName());
            else no("a field that is seen: " + f, !Modifier.isPrivate(f.getModifiers()));
        }
        no("other constants: " + constants, !constants.equals(Set.of("NONE", "BAD", "STATE", "FULL", "NO")));
        no("class of another kind", MatFlip.class.getModifiers() != (Modifier.PUBLIC | Modifier.FINAL));
        no("constructors", MatFlip.class.getConstructors().length != 1);
    }

    private static List<Class<?>> all() {
        List<Class<?>> all = new ArrayList<>(List.of(MatFlip.class.getDeclaredClasses()));
        all.add(MatFlip.class);
        return all;
    }

    private static void classes() {
        no("more than twelve classes", all().size() > 12);
        for (Class<?> c : all()) {
            no("inner class that isn't static: " + c, c != MatFlip.class && !Modifier.isStatic(c.getModifiers()));
            no("public class inside: " + c, c != MatFlip.class && Modifier.isPublic(c.getModifiers()));
            int fields = 0;
            for (Field f : c.getDeclaredFields()) {
                boolean isStatic = Modifier.isStatic(f.getModifiers());
                if (!isStatic) fields++;
                no("static state: " + f, isStatic && (!Modifier.isFinal(f.getModifiers()) || !PLAIN.contains(f.getType())));
            }
            no("more than twenty fields: " + c, fields > 20);
            for (Method m : c.getDeclaredMethods()) {
                no("more than seven parameters: " + m, m.getParameterCount() > 7);
                no("made by the compiler: " + m, m.isSynthetic());
            }
            for (Constructor<?> k : c.getDeclaredConstructors()) no("parameters of " + k, k.getParameterCount() > 7);
        }
    }

    private static void text(String source) {
        String code = source.replaceAll("(?s)/\\*.*?\\*/", "").replaceAll("//[^\n]*", "");
        String words = code.replaceAll("\"[^\"]*\"", "\"\"").replaceAll("'[^']*'", "0");
        for (String word : FORBIDDEN.split(" ")) {
            no(word, Pattern.compile("(?<![\\w.])" + Pattern.quote(word) + "\\b").matcher(words).find());
        }
        no("-> or ::", words.contains("->") || words.contains("::"));
        no("a static block", Pattern.compile("static\\s*\\{").matcher(words).find());
        no("a text joined by +", Pattern.compile("\"\"\\s*\\+|\\+\\s*\"\"").matcher(words).find());
        no("a sign above 126", source.chars().anyMatch(c -> c > 126));
        no("a tab", source.indexOf('\t') >= 0);
        Matcher calls = Pattern.compile("\\b(Math|System|Integer|Long|Arrays|String)\\.(\\w+)").matcher(words);
        while (calls.find()) {
            no("of the library: " + calls.group(), !Set.of("max", "min", "abs", "floorDiv", "arraycopy", "MIN_VALUE")
                .contains(calls.group(2)));
        }
        loopsEnd(words);
        methodsAreShort(source.split("\n"));
    }

    /** Each loop is a for that counts against a bound: no while, and no for without a condition. */
    private static void loopsEnd(String words) {
        no("while or do", Pattern.compile("\\b(while|do)\\b").matcher(words).find());
        Matcher loops = Pattern.compile("for \\(([^;]*);([^;]*);([^)]*)\\)").matcher(words);
        while (loops.find()) {
            no("a loop without a bound: " + loops.group(), !Pattern.compile("[<>]").matcher(loops.group(2)).find()
                || !Pattern.compile("\\w(\\+\\+|--)").matcher(loops.group(3)).find());
        }
    }

    private static void methodsAreShort(String[] lines) {
        int begun = -1;
        for (int i = 0; i < lines.length; i++) {
            boolean isHead = lines[i].matches(" {4}(?: {4})?[\\w].*\\) \\{") && !lines[i].matches(" *(if|for|switch|else)\\b.*");
            if (isHead) begun = i;
            if (begun >= 0 && lines[i].matches(" {4}(?: {4})?\\}")) no("a method of over 60 lines: " + lines[begun], i - begun > 60);
        }
    }
}
