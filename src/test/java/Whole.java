import java.util.ArrayList;
import java.util.List;

/** Objects that have something in everything, and all that can be told of one: what a refused call must leave alone. */
final class Whole {
    private Whole() {
    }

    /** Five players, two inns, signs on the tape, rows, tries, an image that is older than the rest. */
    static MatFlip rich() {
        MatFlip x = new MatFlip();
        Checks.inn(x, "pay 2;slip 6 y=2|k=5");
        x.player(6, 3, 7, 4, 900);
        x.player(1, 2, 20, 3, 800);
        x.player(5, 1, 16, 5, 700);
        x.row(0, 1, 7);
        x.row(0, 3, 0);
        x.set(2, 1, 1);
        x.set(1, 2, 12);
        x.see(1, 10, 11, 10);
        x.book(1, x.most(1));
        x.go(1, 13, 11, 4);
        Checks.feed(x, "wide");
        x.image();
        x.inn();
        Checks.inn(x, "wide 8");
        x.player(4, 2, 12, 2, 600);
        x.player(2, 9, 13, 9, 500);
        x.row(0, 2, 1);
        x.see(0, 9, 11, 4);
        x.see(2, 20, 12, 20);
        x.book(2, x.most(2));
        x.book(3, 98);
        x.go(0, 40, 3, 4);
        x.go(4, 4, 10, 4);
        Checks.feed(x, "pay");
        x.act(3, 2, 5);
        return x;
    }

    /** No player, no inn, no sign, no row more goes in. */
    static MatFlip full() {
        MatFlip x = new MatFlip();
        for (int i = 0; i < 5; i++) Checks.inn(x, "pay " + (i + 1));
        for (int kind = 1; kind < 7; kind++) x.player(kind, kind, 2 * kind, 3, 100 * kind);
        for (int i = 0; i < 8; i++) x.see(i % 6, 10 + i, 11, 10);
        for (int i = 0; i < 8; i++) x.book(i % 6, i == 7 ? 97 : x.most(i % 6));
        Checks.feed(x, "wide 12;pay 7;slip 1 ".repeat(4) + "wide 12;pay 7;sl");
        x.act(3, 2, 5);
        x.image();
        return x;
    }

    /** The last TRY is done. */
    static MatFlip late() {
        MatFlip x = rich();
        for (int t = x.told(0); t < 9999; t++) x.go(0, 1, 0, 0);
        return x;
    }

    /** Asks all, changes what shows only by changing, goes back to the image, and asks again. */
    static long[] told(MatFlip x) {
        List<Long> all = new ArrayList<>();
        ask(x, all);
        change(x, all);
        add(all, x.undo());
        ask(x, all);
        change(x, all);
        add(all, x.undo());
        add(all, x.looked());
        long[] told = new long[all.size()];
        for (int i = 0; i < told.length; i++) told[i] = all.get(i);
        return told;
    }

    private static void add(List<Long> all, long... answers) {
        for (long answer : answers) all.add(answer);
    }

    private static void ask(MatFlip x, List<Long> all) {
        for (int what = 0; what < 6; what++) add(all, x.count(what));
        for (int i = 0; i < 8; i++) add(all, x.trace(i), x.can(i));
        for (int what = 0; what < 3; what++) add(all, x.told(what));
        for (int p = 0; p < 6; p++) {
            for (int what = 0; what < 8; what++) add(all, x.of(p, what));
            add(all, x.learns(p), x.skills(p), x.order(p), x.pile(p, 45, 9, 0), x.pile(p, 45, 9, 1));
        }
        add(all, x.title(-1), x.looked(), x.first(0, 2));
    }

    private static void change(MatFlip x, List<Long> all) {
        for (int k = 0; k < 4; k++) add(all, x.row(0, k, 9), x.row(5, k, 9));
        Checks.feed(x, " 7");
        add(all, x.inn(), x.told(1), x.told(2), x.act(2, 1, 3), x.act(1, 0, 3));
        add(all, x.player(3, 1, 1, 1, 1), x.see(1, 1, 1, 1), x.book(1, 1), x.go(1, 15, 12, 4));
    }
}
