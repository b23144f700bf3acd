import java.math.BigInteger;
import java.util.ArrayList;
import java.util.List;

/**
 * The document once more, as plainly as it can be said and without any of MatFlip's short cuts: an INN
 * stays text, each DRAW is looked at, fractions are fractions. AgainstPlainTest holds MatFlip against it.
 */
final class PlainModel {
    private static final int[] ABOVE = {-1, 0, 0, 0, 1, 2, 3};

    private static final class Somebody {
        int kind, number, v, skill, hand, glasses, score, purse;
        int[] row = {4, 4, 4, 4};

        Somebody copy() {
            Somebody c = new Somebody();
            c.kind = kind;
            c.number = number;
            c.v = v;
            c.skill = skill;
            c.hand = hand;
            c.glasses = glasses;
            c.score = score;
            c.purse = purse;
            c.row = row.clone();
            return c;
        }
    }

    private record Fraction(BigInteger above, BigInteger below) {
        static Fraction of(long above, long below) {
            BigInteger a = BigInteger.valueOf(above), b = BigInteger.valueOf(below), g = a.gcd(b);
            return new Fraction(a.divide(g), b.divide(g));
        }

        Fraction plus(Fraction o) {
            BigInteger a = above.multiply(o.below).add(o.above.multiply(below)), b = below.multiply(o.below);
            BigInteger g = a.gcd(b);
            return new Fraction(a.divide(g), b.divide(g));
        }

        Fraction times(Fraction o) {
            BigInteger a = above.multiply(o.above), b = below.multiply(o.below), g = a.gcd(b);
            return new Fraction(a.divide(g), b.divide(g));
        }

        Fraction less(Fraction o) {
            return plus(o.times(of(-1, 1)));
        }

        int against(Fraction o) {
            return above.multiply(o.below).compareTo(o.above.multiply(below));
        }

        long part(int part) {
            return part == 0 ? above.longValueExact() : below.longValueExact();
        }
    }

    private List<Somebody> players = new ArrayList<>();
    private List<String> inns = new ArrayList<>();
    private String tape = "";
    private int tries;
    private List<int[]> seen = new ArrayList<>(), book = new ArrayList<>();
    private List<Integer> trace = new ArrayList<>();
    private PlainModel image;

    private void takeAll(PlainModel from) {
        players = new ArrayList<>();
        for (Somebody p : from.players) players.add(p.copy());
        inns = new ArrayList<>(from.inns);
        tape = from.tape;
        tries = from.tries;
        seen = new ArrayList<>(from.seen);
        book = new ArrayList<>(from.book);
    }

    // ---- inns: a machine that looks at one sign after the other

    /** The FAULT of the text, or -1. */
    static int faultOf(String text) {
        String state = "clause";
        String rest = "";
        String open = "";
        int clauses = 1;
        boolean tests = false;
        for (int i = 0; i < text.length(); i++) {
            char c = text.charAt(i);
            boolean digit = c >= '0' && c <= '9';
            if (state.equals("more digit")) {
                if (digit) {
                    state = "number over";
                    continue;
                }
                state = "number over";
            }
            if (state.equals("number over")) {
                if (!rest.equals("E")) {
                    if (tests) {
                        if (c != ' ') return i;
                        state = "factor";
                        rest = "E";
                        continue;
                    }
                } else {
                    while (open.endsWith("!")) open = open.substring(0, open.length() - 1);
                    if (c == '|' || c == '&') {
                        state = "factor";
                        continue;
                    }
                    if (c == ')' && open.endsWith("(")) {
                        open = open.substring(0, open.length() - 1);
                        continue;
                    }
                    if (!open.isEmpty()) return i;
                }
                if (c != ';' || clauses == 10) return i;
                clauses++;
                state = "clause";
                continue;
            }
            switch (state) {
                case "clause":
                    int word = "wpsg".indexOf(c);
                    if (word < 0) return i;
                    rest = new String[] {"ide ", "ay ", "lip ", "lue "}[word];
                    tests = word > 1;
                    state = "word";
                    break;
                case "word":
                    if (c != rest.charAt(0)) return i;
                    rest = rest.substring(1);
                    if (rest.isEmpty()) state = "number";
                    break;
                case "number":
                    if (!digit) return i;
                    state = c == '0' ? "number over" : "more digit";
                    break;
                case "factor":
                    if (c == '!' || c == '(') {
                        if (open.length() == 5) return i;
                        open += c;
                    } else if ("pkngsy".indexOf(c) >= 0) {
                        state = "relation";
                    } else {
                        return i;
                    }
                    break;
                default:
                    if ("<=>".indexOf(c) < 0) return i;
                    state = "number";
                    break;
            }
        }
        boolean over = state.equals("more digit") || state.equals("number over");
        while (open.endsWith("!")) open = open.substring(0, open.length() - 1);
        return over && open.isEmpty() && tests == rest.equals("E") ? -1 : text.length();
    }

    private int lastOf(String word, int without) {
        int n = without;
        if (inns.isEmpty()) return n;
        for (String clause : inns.get(inns.size() - 1).split(";")) {
            String[] parts = clause.split(" ");
            if (parts[0].equals(word)) n = Integer.parseInt(parts[1]);
        }
        return n;
    }

    private int wide() {
        return lastOf("wide", 6);
    }

    private int pay() {
        return lastOf("pay", 1);
    }

    /** Where the sign stands in no brackets, the last place; -1 if nowhere. */
    private static int topLast(String e, char sign) {
        int depth = 0;
        for (int i = e.length() - 1; i >= 0; i--) {
            if (e.charAt(i) == ')') depth++;
            if (e.charAt(i) == '(') depth--;
            if (depth == 0 && e.charAt(i) == sign) return i;
        }
        return -1;
    }

    private boolean holds(String e, Somebody p, int n, int skill, int glasses) {
        int or = topLast(e, '|');
        if (or >= 0) {
            return holds(e.substring(0, or), p, n, skill, glasses) | holds(e.substring(or + 1), p, n, skill, glasses);
        }
        int and = topLast(e, '&');
        if (and >= 0) {
            return holds(e.substring(0, and), p, n, skill, glasses) & holds(e.substring(and + 1), p, n, skill, glasses);
        }
        if (e.charAt(0) == '!') return !holds(e.substring(1), p, n, skill, glasses);
        if (e.charAt(0) == '(') return holds(e.substring(1, e.length() - 1), p, n, skill, glasses);
        int number = Integer.parseInt(e.substring(2));
        int fact;
        switch (e.charAt(0)) {
            case 'p': fact = p.number; break;
            case 'k': fact = p.kind; break;
            case 'n': fact = n / 10; break;
            case 'g': fact = glasses; break;
            case 's': fact = skill; break;
            default: fact = tries % 10; break;
        }
        return e.charAt(1) == '<' ? fact < number : e.charAt(1) == '=' ? fact == number : fact > number;
    }

    private int opens(Somebody p, int n, int skill, int glasses) {
        int opens = n;
        if (inns.isEmpty()) return opens;
        for (String clause : inns.get(inns.size() - 1).split(";")) {
            String[] parts = clause.split(" ");
            if (parts.length == 3 && holds(parts[2], p, n, skill, glasses)) {
                opens += (parts[0].equals("slip") ? 1 : -1) * Integer.parseInt(parts[1]);
            }
        }
        return opens < 0 ? 0 : opens;
    }

    private static boolean under(int kind, int k) {
        for (int above = kind; above >= 0; above = ABOVE[above]) {
            if (above == k) return true;
        }
        return false;
    }

    private static int unsure(Somebody p, int skill, int glasses) {
        int taken = p.kind == 4 ? 0 : p.kind == 5 ? 2 * glasses : glasses;
        int unsure = 3 + taken - skill / 4;
        if (unsure < 0) unsure = 0;
        return p.kind == 1 || p.kind == 4 ? unsure / 2 : unsure;
    }

    private int turn(Somebody p, int n, int force) {
        int turn = 5 * force - n / 2;
        if (p.kind == 2 || p.kind == 5) turn += p.v;
        if (p.kind == 3 || p.kind == 6) turn -= p.v;
        if (p.kind == 6) turn += p.row[tries % 4] - 4;
        return turn;
    }

    /** What would be caught by each FORCE and DRAW, at FORCE times ten and DRAW. */
    private int[] caught(Somebody p, int n, int skill, int glasses) {
        int[] all = new int[210];
        int opens = opens(p, n, skill, glasses), unsure = unsure(p, skill, glasses), wide = wide();
        for (int i = 0; i < 210; i++) {
            int off = turn(p, n, i / 10) + unsure * (i % 10 - 4) - 50;
            if (off < 0) off = -off;
            if (off <= wide && opens <= 10 * p.hand) all[i] = n;
            else if (off <= 2 * wide && opens <= 20 * p.hand) all[i] = n / 2;
        }
        return all;
    }

    private int[] best(Somebody p, int n, int skill, int glasses) {
        int[] all = caught(p, n, skill, glasses);
        int best = -1, force = -1;
        for (int f = 0; f <= 20; f++) {
            int odds = 0;
            for (int d = 0; d < 10; d++) odds += all[10 * f + d] == n ? 1 : 0;
            if (odds > best) {
                best = odds;
                force = f;
            }
        }
        return new int[] {force, best};
    }

    private Fraction likely(Somebody p, int n) {
        return Fraction.of(best(p, n, p.skill, p.glasses)[1], 10);
    }

    private int most(Somebody p, int glasses) {
        int most = 0;
        for (int n = 1; n <= 99; n++) {
            if (best(p, n, p.skill, glasses)[1] >= 5) most = n;
        }
        return most;
    }

    private Fraction planned(Somebody p, int score, int skill, int tries, int[] firsts) {
        if (tries == 0) return Fraction.of(score, 1);
        Fraction most = null;
        for (int n = 5; n <= 60; n += 5) {
            int odds = best(p, n, skill, p.glasses)[1];
            int apart = n > score ? n - score : score - n;
            int more = apart <= 5 && skill < 20 ? skill + 1 : skill;
            Fraction mean = Fraction.of(0, 1);
            if (odds > 0) {
                mean = Fraction.of(odds, 10).times(planned(p, n > score ? n : score, more, tries - 1, null));
            }
            if (odds < 10) mean = mean.plus(Fraction.of(10 - odds, 10).times(planned(p, score, skill, tries - 1, null)));
            if (most == null || mean.against(most) > 0) {
                most = mean;
                if (firsts != null) firsts[0] = n;
            }
        }
        return most;
    }

    private Fraction[] raised(Somebody one, Somebody other, int n, int tries) {
        Fraction win = Fraction.of(0, 1), loss = Fraction.of(0, 1), still = Fraction.of(1, 1);
        for (int t = 0; t < tries; t++) {
            Fraction p = likely(t % 2 == 0 ? one : other, n + t > 99 ? 99 : n + t);
            Fraction over = still.times(Fraction.of(1, 1).less(p));
            if (t % 2 == 0) loss = loss.plus(over);
            else win = win.plus(over);
            still = still.times(p);
        }
        return new Fraction[] {win, still, loss};
    }

    // ---- the calls

    private Somebody who(int player) {
        return player >= 0 && player < players.size() ? players.get(player) : null;
    }

    private static boolean in(int n, int from, int to) {
        return from <= n && n <= to;
    }

    private static long fraction(Fraction f, int part) {
        return f.part(part);
    }

    long call(String name, int[] a) {
        switch (name) {
            case "feed":
                if (!in(a[0], 0, 127)) return -2;
                if (tape.length() == 100) return -4;
                tape += (char) a[0];
                return tape.length();
            case "inn":
                if (inns.size() == 5) return -4;
                int fault = faultOf(tape);
                if (fault < 0) inns.add(tape);
                tape = "";
                return fault < 0 ? inns.size() - 1 : -10 - fault;
            case "player": return player(a);
            case "told": return in(a[0], 0, 2) ? new int[] {tries, wide(), pay()}[a[0]] : -1;
            case "order": return order(a[0]);
            case "title": return title(a[0]);
            case "can": return in(a[0], 0, seen.size() - 1) ? can(a[0]) : -1;
            case "looked":
                for (int i = 0; i < book.size(); i++) {
                    Somebody p = who(book.get(i)[0]);
                    if (most(p, p.glasses) != book.get(i)[1]) return i;
                }
                return -5;
            case "trace": return in(a[0], 0, trace.size() - 1) && a[0] < 20 ? trace.get(a[0]) : -1;
            case "image":
                image = new PlainModel();
                image.takeAll(this);
                return players.size();
            case "undo":
                if (image == null) return -3;
                takeAll(image);
                return players.size();
            case "count":
                return in(a[0], 0, 5) ? new int[] {players.size(), inns.size(), seen.size(), book.size(),
                    tape.length(), trace.size()}[a[0]] : -1;
            case "see": return see(a);
            case "book": return book(a);
            case "act":
                trace.clear();
                if (who(a[0]) == null || !in(a[1], 0, 2)) return 0;
                return act(who(a[0]), who(a[0]).kind, a[1], a[2]);
            case "more":
            case "raise":
            case "wager": return ofTwo(name, a);
            default: return ofOne(name, who(a[0]), a);
        }
    }

    private long player(int[] a) {
        if (!in(a[0], 0, 6)) return -1;
        if (!in(a[1], 0, 9) || !in(a[2], 0, 20) || !in(a[3], 1, 9) || !in(a[4], 0, 9999)) return -2;
        if (players.size() == 6) return -4;
        Somebody p = new Somebody();
        p.number = players.size();
        p.kind = a[0];
        p.v = a[1];
        p.skill = a[2];
        p.hand = a[3];
        p.purse = a[4];
        players.add(p);
        return p.number;
    }

    private long see(int[] a) {
        if (a[0] == -1) {
            seen.clear();
            return 0;
        }
        if (who(a[0]) == null) return -1;
        if (!in(a[1], 1, 99) || !in(a[2], 0, 20) || !in(a[3], 0, 99)) return -2;
        if (seen.size() == 8) return -4;
        seen.add(a.clone());
        return seen.size();
    }

    private long book(int[] a) {
        if (a[0] == -1) {
            book.clear();
            return 0;
        }
        if (who(a[0]) == null) return -1;
        if (!in(a[1], 0, 99)) return -2;
        if (book.size() == 8) return -4;
        book.add(a.clone());
        return book.size();
    }

    private long order(int k) {
        if (!in(k, 0, players.size() - 1)) return -1;
        List<Integer> left = new ArrayList<>();
        for (int i = 0; i < players.size(); i++) left.add(i);
        for (int place = 0;; place++) {
            int first = 0;
            for (int i = 1; i < left.size(); i++) {
                Somebody p = who(left.get(i)), q = who(left.get(first));
                if (most(p, p.glasses) > most(q, q.glasses)) first = i;
            }
            if (place == k) return left.get(first);
            left.remove(first);
        }
    }

    private long title(int player) {
        if (player != -1 && who(player) == null) return -1;
        if (players.isEmpty()) return -5;
        int[] points = new int[6];
        for (Somebody p : players) {
            for (Somebody q : players) {
                if (p.number >= q.number) continue;
                int a = most(p, p.glasses), b = most(q, q.glasses), n = a > b ? a : b;
                Fraction[] r = raised(p, q, n < 1 ? 1 : n, 4);
                int than = r[0].against(r[2]);
                points[p.number] += than > 0 ? 2 : than == 0 ? 1 : 0;
                points[q.number] += than < 0 ? 2 : than == 0 ? 1 : 0;
            }
        }
        if (player >= 0) return points[player];
        int most = 0;
        for (int i = 0; i < players.size(); i++) most = points[i] > points[most] ? i : most;
        return most;
    }

    private long can(int i) {
        int[] s = seen.get(i);
        Somebody p = who(s[0]);
        int[] all = caught(p, s[1], p.skill, p.glasses);
        int bits = 0;
        for (int d = 0; d < 10; d++) bits |= all[10 * s[2] + d] == s[3] ? 1 << d : 0;
        return bits;
    }

    private static final int[][] BODIES = {
        {1, 11, 0, 0, 0, 51, 0}, {2, 0, 21, 0, 0, 0, 61}, {3, 0, 0, 31, 41, 0, 0}};

    /** The body of the act from the KIND on upwards. */
    private int act(Somebody p, int from, int act, int x) {
        int kind = from;
        while (BODIES[act][kind] == 0) kind = ABOVE[kind];
        int body = BODIES[act][kind];
        trace.add(body);
        switch (body) {
            case 1: return x + p.number;
            case 2: return act(p, p.kind, 0, x) - p.v;
            case 3: return act(p, p.kind, 1, x) * 2;
            case 11: return act(p, 0, 0, x * 3);
            case 21: return -act(p, 0, 1, x);
            case 31: return act(p, 0, 2, x) ^ 7;
            case 41:
                int told = act(p, 1, 2, x - 1);
                return told + act(p, p.kind, 0, 2);
            case 51: return act(p, 2, 0, x) ^ p.number;
            default: return act(p, 3, 1, x) + p.v;
        }
    }

    private long ofTwo(String name, int[] a) {
        Somebody p = who(a[0]), q = who(a[1]);
        if (name.equals("wager")) {
            if (p == null || q == null) return -1;
            if (p == q || !in(a[2], 0, 999)) return -2;
            Fraction wins = likely(p, q.score == 99 ? 99 : q.score + 1);
            Fraction then = Fraction.of(p.purse + a[2], 1).times(wins)
                .plus(Fraction.of(p.purse - a[2], 1).times(Fraction.of(1, 1).less(wins)));
            return p.purse >= a[2] && then.against(Fraction.of(p.purse, 1)) > 0 ? 1 : 0;
        }
        if (p == null || q == null || p == q) return Long.MIN_VALUE;
        if (name.equals("more")) {
            if (!in(a[2], 1, 6) || !in(a[3], 0, 1)) return Long.MIN_VALUE;
            return fraction(insome(likely(p, q.score == 99 ? 99 : q.score + 1), a[2]), a[3]);
        }
        if (!in(a[2], 1, 99) || !in(a[3], 1, 8) || !in(a[4], 0, 1) || !in(a[5], 0, 1)) return Long.MIN_VALUE;
        return fraction(raised(p, q, a[2], a[3])[a[4]], a[5]);
    }

    private static Fraction insome(Fraction likely, int tries) {
        Fraction never = Fraction.of(1, 1);
        for (int t = 0; t < tries; t++) never = never.times(Fraction.of(1, 1).less(likely));
        return Fraction.of(1, 1).less(never);
    }

    private long ofOne(String name, Somebody p, int[] a) {
        switch (name) {
            case "of":
                if (p == null || !in(a[1], 0, 7)) return -1;
                return new int[] {p.kind, p.v, p.skill, p.hand, p.glasses, p.score, p.purse,
                    unsure(p, p.skill, p.glasses)}[a[1]];
            case "set": return set(p, a[1], a[2]);
            case "row":
                if (p == null || !in(a[1], 0, 3)) return -1;
                if (!in(a[2], 0, 9)) return -2;
                if (p.kind != 6) return -3;
                int was = p.row[a[1]];
                p.row[a[1]] = a[2];
                return was;
            case "as":
                if (p == null || !in(a[1], 0, 6)) return -1;
                return under(p.kind, a[1]) ? p.v : -6;
            case "pile":
                if (p == null || !in(a[3], 0, 1)) return -1001;
                if (!in(a[1], 1, 99) || !in(a[2], 0, 20)) return -1002;
                return a[3] == 0 ? turn(p, a[1], a[2]) : opens(p, a[1], p.skill, p.glasses);
            case "would":
            case "go": return tries(name, p, a);
            case "plan":
                if (p == null || !in(a[1], 1, 3) || !in(a[2], 0, 1)) return Long.MIN_VALUE;
                return fraction(planned(p, p.score, p.skill, a[1], null), a[2]);
            case "mean":
            case "floor":
                if (p == null || !in(a[1], 1, 99) || !in(a[2], 0, 20) || !in(a[3], 0, 1)) return Long.MIN_VALUE;
                Fraction caught = Fraction.of(0, 1), paid = Fraction.of(0, 1);
                for (int d = 0; d < 10; d++) {
                    int c = caught(p, a[1], p.skill, p.glasses)[10 * a[2] + d];
                    caught = caught.plus(Fraction.of(c, 10));
                    paid = paid.plus(Fraction.of(pay() * (a[1] - c), 10));
                }
                return fraction(name.equals("mean") ? caught : paid, a[3]);
            default: return p == null ? -1 : asked(name, p, a);
        }
    }

    private long set(Somebody p, int what, int n) {
        if (p == null || !in(what, 0, 2)) return -1;
        if (!in(n, 0, new int[] {20, 9, 99}[what])) return -2;
        int was = new int[] {p.skill, p.glasses, p.score}[what];
        if (what == 0) p.skill = n;
        if (what == 1) p.glasses = n;
        if (what == 2) p.score = n;
        return was;
    }

    private long tries(String name, Somebody p, int[] a) {
        if (p == null) return -1;
        if (!in(a[1], 1, 99) || !in(a[2], 0, 20) || !in(a[3], 0, 9)) return -2;
        int n = a[1], caught = caught(p, n, p.skill, p.glasses)[10 * a[2] + a[3]];
        if (name.equals("would")) return caught;
        if (tries == 9999) return -3;
        int before = p.score;
        if (caught == n && n > before) p.score = n;
        if (caught == n && n - before <= 5 && before - n <= 5 && p.skill < 20) p.skill++;
        p.purse -= pay() * (n - caught);
        if (p.purse < 0) p.purse = 0;
        tries++;
        return caught;
    }

    private long asked(String name, Somebody p, int[] a) {
        switch (name) {
            case "odds":
                if (!in(a[1], 1, 99) || !in(a[2], 0, 20)) return -2;
                int odds = 0;
                for (int d = 0; d < 10; d++) {
                    odds += caught(p, a[1], p.skill, p.glasses)[10 * a[2] + d] == a[1] ? 1 : 0;
                }
                return odds;
            case "best":
                if (!in(a[2], 0, 1)) return -1;
                return in(a[1], 1, 99) ? best(p, a[1], p.skill, p.glasses)[a[2]] : -2;
            case "most": return most(p, p.glasses);
            case "learns": return learns(p);
            case "first":
                if (!in(a[1], 1, 3)) return -2;
                int[] firsts = new int[1];
                planned(p, p.score, p.skill, a[1], firsts);
                return firsts[0];
            case "record":
                if (!in(a[1], 1, 99)) return -2;
                for (int t = 1; t < 30; t++) {
                    if (insome(likely(p, a[1]), t).against(Fraction.of(1, 2)) >= 0) return t;
                }
                return -5;
            case "glass":
                if (!in(a[1], 0, 1)) return -1;
                int best = 0;
                for (int g = 1; g < 10; g++) best = most(p, g) > most(p, best) ? g : best;
                return a[1] == 0 ? best : most(p, best);
            case "stuck": return stuck(p, a[1]);
            default: return skills(p);
        }
    }

    private long learns(Somebody p) {
        int learnt = -1, most = -1;
        for (int n = 99; n >= 1; n--) {
            if (!in(n - p.score, -5, 5)) continue;
            int odds = best(p, n, p.skill, p.glasses)[1];
            if (odds > most) {
                most = odds;
                learnt = n;
            }
        }
        return learnt;
    }

    private long stuck(Somebody p, int n) {
        if (!in(n, 1, 99)) return -2;
        for (int glue = 0; glue <= 99; glue++) {
            if (opens(p, n, p.skill, p.glasses) - glue <= 10 * p.hand) return glue;
        }
        return -5;
    }

    private long skills(Somebody p) {
        int bits = 0;
        for (int s = 0; s <= 20; s++) {
            boolean all = true;
            for (int[] row : seen) {
                if (row[0] != p.number) continue;
                int[] caught = caught(p, row[1], s, p.glasses);
                boolean some = false;
                for (int d = 0; d < 10; d++) some |= caught[10 * row[2] + d] == row[3];
                all &= some;
            }
            bits |= all ? 1 << s : 0;
        }
        return bits;
    }
}
