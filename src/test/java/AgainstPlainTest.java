/** Runs of calls, drawn by a fixed rule, on MatFlip and on PlainModel: both answer alike. */
public final class AgainstPlainTest {
    private static final String[] NAMES = {"feed", "inn", "player", "of", "set", "row", "told", "pile", "would", "go",
        "odds", "mean", "best", "most", "learns", "plan", "first", "more", "record", "raise", "wager", "glass", "stuck",
        "floor", "order", "title", "see", "can", "skills", "book", "looked", "act", "trace", "as", "image", "undo",
        "count"};
    private static final int[] SOME_ODD_NUMBERS = {
        -1, -2, 0, 1, 9, 10, 20, 21, 99, 100, 127, 128, 1000, Integer.MIN_VALUE, Integer.MAX_VALUE};
    /** For so many calls an object is used. */
    private static final int WHOLE_RUN = 512;
    private static final Checks C = new Checks("AgainstPlainTest");
    private static long seed = 20261118;

    public static void main(String[] args) {
        for (int i = 0; i < 60000; i++) readAlike(text());
        for (int run = 0; run < 400; run++) runAlike(run, run % 10 == 0 ? WHOLE_RUN : 120);
        C.end();
    }

    private static int below(int n) {
        seed = seed * 6364136223846793005L + 1442695040888963407L;
        return (int) ((seed >>> 33) % n);
    }

    private static int from(int least, int greatest) {
        return least + below(greatest - least + 1);
    }

    // ---- texts of inns, mostly right ones

    private static String text() {
        StringBuilder text = new StringBuilder();
        int clauses = below(8) == 0 ? from(8, 11) : from(1, 4);
        for (int k = 0; k < clauses; k++) {
            if (k > 0) text.append(';');
            String word = new String[] {"wide", "pay", "slip", "glue"}[clauses > 7 ? below(2) : below(4)];
            text.append(word).append(' ').append(number(99));
            if (word.length() == 4 && !word.equals("wide")) {
                text.append(' ');
                either(text, below(6) == 0 ? 6 : below(4));
            }
        }
        if (below(3) == 0) spoil(text);
        return text.length() > 100 ? text.substring(0, 100) : text.toString();
    }

    private static int number(int greatest) {
        return below(3) == 0 ? from(0, greatest) : from(0, Math.min(greatest, 12));
    }

    private static void either(StringBuilder text, int depth) {
        for (int k = below(2); k >= 0; k--) {
            both(text, depth);
            if (k > 0) text.append('|');
        }
    }

    private static void both(StringBuilder text, int depth) {
        for (int k = below(2); k >= 0; k--) {
            factor(text, depth);
            if (k > 0) text.append('&');
        }
    }

    private static void factor(StringBuilder text, int depth) {
        int way = depth <= 0 ? 9 : below(4);
        if (way == 0) {
            text.append('!');
            factor(text, depth - 1);
        } else if (way == 1) {
            text.append('(');
            either(text, depth - 1);
            text.append(')');
        } else {
            text.append("pkngsy".charAt(below(6))).append("<=>".charAt(below(3))).append(below(4) == 0 ? number(99) : number(21));
        }
    }

    private static void spoil(StringBuilder text) {
        String signs = " ;wpsglueidayk0123456789<=>!()&|n\u0000x";
        for (int k = below(2); k >= 0; k--) {
            int at = below(text.length() + 1);
            int way = below(4);
            if (way == 0) text.insert(at, signs.charAt(below(signs.length())));
            else if (way == 1 && at < text.length()) text.deleteCharAt(at);
            else if (way == 2 && at < text.length()) text.setCharAt(at, signs.charAt(below(signs.length())));
            else text.setLength(at);
        }
    }

    private static void readAlike(String text) {
        MatFlip x = new MatFlip();
        PlainModel y = new PlainModel();
        x.player(4, 1, 8, 3, 9);
        y.call("player", new int[] {4, 1, 8, 3, 9});
        Checks.feed(x, text);
        for (int i = 0; i < text.length(); i++) y.call("feed", new int[] {text.charAt(i)});
        C.due("inn of '" + text + "'", x.inn(), y.call("inn", new int[0]));
        for (int n = 5; n <= 99; n += 9) {
            C.due("opens " + n + " by '" + text + "'", x.pile(0, n, 5, 1), y.call("pile", new int[] {0, n, 5, 1}));
        }
    }

    // ---- runs

    private static void runAlike(int run, int calls) {
        MatFlip x = new MatFlip();
        PlainModel y = new PlainModel();
        for (int k = from(0, 6); k > 0; k--) alike(run, x, y, "player", arguments("player", false));
        for (int call = 0; call < calls; call++) {
            if (below(30) == 0) {
                String text = text();
                for (int i = 0; i < text.length(); i++) alike(run, x, y, "feed", new int[] {text.charAt(i)});
                alike(run, x, y, "inn", new int[0]);
            }
            String name = NAMES[below(NAMES.length)];
            alike(run, x, y, name, arguments(name, below(5) == 0));
        }
    }

    private static void alike(int run, MatFlip x, PlainModel y, String name, int[] a) {
        StringBuilder call = new StringBuilder(name);
        for (int n : a) call.append(' ').append(n);
        C.due("run " + run + ": " + call, asked(x, name, a), y.call(name, a));
    }

    private static int[] arguments(String name, boolean odd) {
        int[] a = rightArguments(name);
        if (odd && a.length > 0) {
            a[below(a.length)] = SOME_ODD_NUMBERS[below(SOME_ODD_NUMBERS.length)];
            if (below(2) == 0) a[below(a.length)] = SOME_ODD_NUMBERS[below(SOME_ODD_NUMBERS.length)];
        }
        return a;
    }

    private static int someMats() {
        return below(3) == 0 ? from(1, 99) : from(1, 40);
    }

    private static int[] rightArguments(String name) {
        int p = below(6), q = (p + from(1, 5)) % 6, n = someMats(), force = below(2) == 0 ? (50 + n / 2) / 5 : from(0, 20);
        force = Math.min(force, 20);
        switch (name) {
            case "feed": return new int[] {from(0, 127)};
            case "player": return new int[] {from(0, 6), from(0, 9), from(0, 20), from(1, 9),
                below(2) == 0 ? from(0, 60) : from(0, 9999)};
            case "of": return new int[] {p, from(0, 7)};
            case "set":
                int what = below(3);
                return new int[] {p, what, from(0, new int[] {20, 9, 99}[what])};
            case "row": return new int[] {p, from(0, 3), from(0, 9)};
            case "told": return new int[] {from(0, 2)};
            case "pile":
            case "mean":
            case "floor": return new int[] {p, n, force, from(0, 1)};
            case "would":
            case "go": return new int[] {p, n, force, from(0, 9)};
            case "odds": return new int[] {p, n, force};
            case "best": return new int[] {p, n, from(0, 1)};
            case "plan": return new int[] {p, from(1, 2 + below(2)), from(0, 1)};
            case "first": return new int[] {p, from(1, 2 + below(2))};
            case "more": return new int[] {p, q, from(1, 6), from(0, 1)};
            case "record":
            case "stuck": return new int[] {p, n};
            case "raise": return new int[] {p, q, n, from(1, 8), from(0, 1), from(0, 1)};
            case "wager": return new int[] {p, q, below(2) == 0 ? from(0, 40) : from(0, 999)};
            case "glass": return new int[] {p, from(0, 1)};
            case "title": return new int[] {from(-1, 5)};
            case "see": return new int[] {below(20) == 0 ? -1 : p, n, force, new int[] {n, n / 2, 0, from(0, 99)}[below(4)]};
            case "can": return new int[] {from(0, 7)};
            case "book": return new int[] {below(20) == 0 ? -1 : p, below(2) * from(0, 9) * 10};
            case "act": return new int[] {p, from(0, 2), below(4) == 0 ? Integer.MAX_VALUE - below(9) : from(-50, 50)};
            case "trace": return new int[] {from(0, 8)};
            case "as": return new int[] {p, from(0, 6)};
            case "count": return new int[] {from(0, 5)};
            case "inn":
            case "looked":
            case "image":
            case "undo": return new int[0];
            default: return new int[] {p};
        }
    }

    private static long asked(MatFlip x, String name, int[] a) {
        switch (name) {
            case "feed": return x.feed(a[0]);
            case "inn": return x.inn();
            case "player": return x.player(a[0], a[1], a[2], a[3], a[4]);
            case "of": return x.of(a[0], a[1]);
            case "set": return x.set(a[0], a[1], a[2]);
            case "row": return x.row(a[0], a[1], a[2]);
            case "told": return x.told(a[0]);
            case "pile": return x.pile(a[0], a[1], a[2], a[3]);
            case "would": return x.would(a[0], a[1], a[2], a[3]);
            case "go": return x.go(a[0], a[1], a[2], a[3]);
            case "odds": return x.odds(a[0], a[1], a[2]);
            case "mean": return x.mean(a[0], a[1], a[2], a[3]);
            case "best": return x.best(a[0], a[1], a[2]);
            case "most": return x.most(a[0]);
            case "learns": return x.learns(a[0]);
            case "plan": return x.plan(a[0], a[1], a[2]);
            case "first": return x.first(a[0], a[1]);
            case "more": return x.more(a[0], a[1], a[2], a[3]);
            case "record": return x.record(a[0], a[1]);
            case "raise": return x.raise(a[0], a[1], a[2], a[3], a[4], a[5]);
            case "wager": return x.wager(a[0], a[1], a[2]);
            case "glass": return x.glass(a[0], a[1]);
            case "stuck": return x.stuck(a[0], a[1]);
            case "floor": return x.floor(a[0], a[1], a[2], a[3]);
            case "order": return x.order(a[0]);
            case "title": return x.title(a[0]);
            case "see": return x.see(a[0], a[1], a[2], a[3]);
            case "can": return x.can(a[0]);
            case "skills": return x.skills(a[0]);
            case "book": return x.book(a[0], a[1]);
            case "looked": return x.looked();
            case "act": return x.act(a[0], a[1], a[2]);
            case "trace": return x.trace(a[0]);
            case "as": return x.as(a[0], a[1]);
            case "image": return x.image();
            case "undo": return x.undo();
            default: return x.count(a[0]);
        }
    }
}
