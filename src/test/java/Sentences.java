import java.io.IOException;
import java.nio.file.Files;
import java.nio.file.Path;
import java.util.ArrayList;
import java.util.Arrays;
import java.util.List;
import java.util.regex.Matcher;
import java.util.regex.Pattern;

/** What ../shared/DOC.md says in "Terms" and under each promise, and which of its words a test is named after. */
final class Sentences {
    private static final int PROMISES = 38, TERMS = 0;
    private final String[] texts = new String[PROMISES + 1];
    private final boolean[][] named = new boolean[PROMISES + 1][];

    Sentences(Path document) {
        String all;
        try {
            all = Files.readString(document);
        } catch (IOException e) {
            throw new IllegalStateException("no document at " + document.toAbsolutePath(), e);
        }
        Arrays.fill(texts, "");
        int terms = all.indexOf("## Terms"), end = all.indexOf("Ahead of the calls");
        if (terms >= 0 && end > terms) texts[TERMS] = all.substring(terms + "## Terms".length(), end).replaceAll("```\\w*|==== \\d", " ");
        Matcher promises = Pattern.compile("(?s)## Promise (\\d+): \\w[^\n]*\n+`[^`]*`: (.*?)(?=\n## |$)").matcher(all);
        while (promises.find()) texts[Integer.parseInt(promises.group(1))] = promises.group(2);
        for (int i = 0; i <= PROMISES; i++) {
            texts[i] = texts[i].replaceAll("\\s+", " ").trim();
            named[i] = new boolean[texts[i].length()];
        }
    }

    /** Whether the words stand under the promise or, where they don't, in the terms. */
    boolean name(int promise, String words) {
        return nameIn(promise, words) || nameIn(TERMS, words);
    }

    private boolean nameIn(int section, String words) {
        int first = texts[section].indexOf(words), at = first;
        while (at >= 0 && isNamed(section, at, words)) at = texts[section].indexOf(words, at + 1);
        if (at >= 0) Arrays.fill(named[section], at, at + words.length(), true);
        return first >= 0;
    }

    private boolean isNamed(int section, int at, String words) {
        for (int i = at; i < at + words.length(); i++) {
            if (!named[section][i]) return false;
        }
        return true;
    }

    /** The words that no test is named after. */
    List<String> unnamed() {
        List<String> left = new ArrayList<>();
        for (int i = 0; i <= PROMISES; i++) {
            if (texts[i].isEmpty()) left.add("section " + i + " is empty");
            StringBuilder run = new StringBuilder();
            for (int k = 0; k <= texts[i].length(); k++) {
                if (k < texts[i].length() && !named[i][k]) {
                    run.append(texts[i].charAt(k));
                    continue;
                }
                if (run.toString().matches(".*\\w.*")) left.add((i == TERMS ? "Terms" : "Promise " + i) + ": " + run);
                run.setLength(0);
            }
        }
        return left;
    }
}
