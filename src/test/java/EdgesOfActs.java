/** Promises 33 to 38: ACTS, THE TRACE, THE IMAGE, counts. */
final class EdgesOfActs extends Edges {
    private static final int[] XS = {0, 1, -1, 2, 7, MAX, MAX - 1, MIN, MIN + 1, 1 << 30, -(1 << 30), MAX / 3 + 1, MIN / 3 - 1};

    /** What an ACT of x answers by the number i and v. */
    private interface Body {
        int of(int x, int i, int v);
    }

    private EdgesOfActs() {
    }

    static void all() {
        wrapping();
        bodies();
        calls();
        act();
        trace();
        image();
        undo();
        undone();
        count();
    }

    private static void wrapping() {
        holds(33, "ACTS of a PLAYER with x (ints, wrapping): strikes, catches, tells; i its number.", () -> {
            MatFlip x = new MatFlip();
            for (int kind = 0; kind < 6; kind++) x.player(kind, 9, 0, 1, 0);
            due("above the greatest", x.act(2, 0, MAX), MIN + 1);
            due("of player 0 nothing is added", x.act(0, 0, MAX), MAX);
            due("below the least", x.act(0, 1, MIN), MAX - 8);
            due("twice the greatest less 9", x.act(0, 2, MAX), -20);
            due("three times the greatest, and 1", x.act(1, 0, MAX), MAX - 1);
            due("three times the least, and 1", x.act(1, 0, MIN), MIN + 1);
            due("three times a third and a bit", x.act(1, 0, MAX / 3 + 1), MIN + 1 + 1);
            due("the least stays so when turned", x.act(2, 1, MIN + 7), MIN);
            due("the greatest turned", x.act(2, 1, MIN + 6), MIN + 1);
            due("one less than the least, three times", x.act(4, 2, MIN), (MAX * 3 + 4 - 9) * 2 + 10);
            due("of player 5, bits turned", x.act(5, 0, MAX), MIN + 4 ^ 5);
        });
    }

    private static void bodies() {
        holds(33, "BODIES: PLAYER: 1 strikes: x + i. 2 catches: strikes(x) - v. 3 tells: catches(x) * 2.", () -> {
            acts(0, 0, (x, i, v) -> x + i, 1);
            acts(0, 1, (x, i, v) -> x + i - v, 2, 1);
            acts(0, 2, (x, i, v) -> (x + i - v) * 2, 3, 2, 1);
        });
        holds(33, "SURE: 11 strikes: super.strikes(x * 3).", () -> {
            acts(1, 0, (x, i, v) -> x * 3 + i, 11, 1);
            acts(1, 1, (x, i, v) -> x * 3 + i - v, 2, 11, 1);
            acts(1, 2, (x, i, v) -> (x * 3 + i - v) * 2, 3, 2, 11, 1);
        });
        holds(33, "BOLD: 21 catches: -super.catches(x).", () -> {
            acts(2, 0, (x, i, v) -> x + i, 1);
            acts(2, 1, (x, i, v) -> -(x + i - v), 21, 2, 1);
            acts(2, 2, (x, i, v) -> -(x + i - v) * 2, 3, 21, 2, 1);
        });
        holds(33, "SLACK: 31 tells: super.tells(x) ^ 7.", () -> {
            acts(3, 0, (x, i, v) -> x + i, 1);
            acts(3, 1, (x, i, v) -> x + i - v, 2, 1);
            acts(3, 2, (x, i, v) -> (x + i - v) * 2 ^ 7, 31, 3, 2, 1);
        });
        holds(33, "CALM: 41 tells: super.tells(x - 1) + strikes(2).", () -> {
            acts(4, 0, (x, i, v) -> x * 3 + i, 11, 1);
            acts(4, 1, (x, i, v) -> x * 3 + i - v, 2, 11, 1);
            acts(4, 2, (x, i, v) -> ((x - 1) * 3 + i - v) * 2 + 6 + i, 41, 3, 2, 11, 1, 11, 1);
        });
        holds(33, "DRUNK: 51 strikes: super.strikes(x) ^ i.", () -> {
            acts(5, 0, (x, i, v) -> x + i ^ i, 51, 1);
            acts(5, 1, (x, i, v) -> -((x + i ^ i) - v), 21, 2, 51, 1);
            acts(5, 2, (x, i, v) -> -((x + i ^ i) - v) * 2, 3, 21, 2, 51, 1);
        });
        holds(33, "TOLD: 61 catches: super.catches(x) + v.", () -> {
            acts(6, 0, (x, i, v) -> x + i, 1);
            acts(6, 1, (x, i, v) -> x + i, 61, 2, 1);
            acts(6, 2, (x, i, v) -> (x + i) * 2 ^ 7, 31, 3, 61, 2, 1);
        });
    }

    private static void calls() {
        holds(33, "strikes(..) and so on: the body of its KIND, or, if that has none, of the next KIND above that has one;", () -> {
            ran(1, 2, 3, 2, 11, 1);
            ran(5, 1, 21, 2, 51, 1);
            ran(4, 0, 11, 1);
            ran(6, 0, 1);
            ran(2, 0, 1);
        });
        holds(33, "super.strikes(..): so from the KIND above the body's on;", () -> {
            ran(5, 0, 51, 1);
            ran(6, 1, 61, 2, 1);
            ran(4, 2, 41, 3, 2, 11, 1, 11, 1);
        });
        holds(33, "what stands in a body is done from the left on.", () -> ran(4, 2, 41, 3, 2, 11, 1, 11, 1));
        holds(33, "THE TRACE: the numbers of the bodies that ran in the latest act(), as they began;", () -> {
            MatFlip x = new MatFlip();
            x.player(4, 0, 0, 1, 0);
            x.act(0, 2, 1);
            x.act(0, 1, 1);
            trace(x, 2, 11, 1);
            x.act(0, 0, 1);
            trace(x, 11, 1);
        });
    }

    /** By number 0 and 5, by v 0 and 9, by all of XS. */
    private static void acts(int kind, int act, Body body, int... trace) {
        for (int i = 0; i < 6; i += 5) {
            for (int v = 0; v < 10; v += 9) {
                MatFlip x = new MatFlip();
                for (int k = 0; k < i; k++) x.player(k, 1, 0, 1, 0);
                x.player(kind, v, 0, 1, 0);
                for (int n : XS) {
                    due("kind " + kind + ", number " + i + ", v " + v + ", act " + act + " of " + n, x.act(i, act, n), body.of(n, i, v));
                }
                trace(x, trace);
            }
        }
    }

    private static void ran(int kind, int act, int... bodies) {
        MatFlip x = new MatFlip();
        x.player(kind, 3, 0, 1, 0);
        x.act(0, act, 5);
        trace(x, bodies);
    }

    private static void trace(MatFlip x, int... bodies) {
        due("bodies", x.count(5), bodies.length);
        for (int i = 0; i < bodies.length; i++) due("body " + i, x.trace(i), bodies[i]);
        for (int i = bodies.length; i < 22; i++) due("body " + i, x.trace(i), NONE);
    }

    private static void act() {
        holds(33, "An ACT (0 strikes, 1 catches, 2 tells) of a PLAYER with x.", () -> {
            MatFlip x = new MatFlip();
            x.player(0, 3, 0, 1, 0);
            due("strikes", x.act(0, 0, 10), 10);
            due("catches", x.act(0, 1, 10), 7);
            due("tells", x.act(0, 2, 10), 14);
            due("as is asked again", x.act(0, 0, 10), 10);
            for (int act = 0; act < 3; act++) {
                MatFlip y = Whole.rich(), z = Whole.rich();
                y.act(3, act, 5);
                z.act(3, act, 99);
                dueAll("of x nothing is kept", Whole.told(y), Whole.told(z));
            }
        });
        holds(33, "0, and no TRACE then: no such PLAYER, act.", () -> {
            for (int player : NOBODY) refused(player, 0);
            for (int act : out(0, 2)) refused(0, act);
            refused(5, 3);
            MatFlip x = new MatFlip();
            due("nobody is there", x.act(0, 0, 5), 0);
            trace(x);
            MatFlip y = new MatFlip();
            y.player(0, 3, 0, 1, 0);
            due("an answer that is 0", y.act(0, 1, 3), 0);
            trace(y, 2, 1);
        });
    }

    private static void refused(int player, int act) {
        MatFlip x = Whole.rich();
        due("bodies ahead of it", x.count(5), 7);
        due("act " + act + " of " + player, x.act(player, act, 5), 0);
        trace(x);
        // But for THE TRACE it changes nothing.
        x.act(3, 2, 5);
        dueAll("the rest stays", Whole.told(x), Whole.told(Whole.rich()));
    }

    private static void trace() {
        holds(34, "THE TRACE's i-th body.", () -> {
            MatFlip x = new MatFlip();
            x.player(4, 3, 0, 1, 0);
            x.act(0, 2, 5);
            int[] due = {41, 3, 2, 11, 1, 11, 1};
            for (int i = 0; i < 7; i++) due("body " + i, x.trace(i), due[i]);
            for (int i = 0; i < 7; i++) due("again body " + i, x.trace(i), due[i]);
            due("told, it stays", x.count(5), 7);
        });
        holds(34, "NONE.", () -> {
            staysIn(MatFlip::new, "no act yet", x -> x.trace(0), NONE);
            for (int i : new int[] {-1, 7, 8, 19, 20, 21, MIN, MAX}) stays("body " + i, x -> x.trace(i), NONE);
            MatFlip x = Whole.rich();
            x.act(0, 9, 1);
            due("by a refused act", x.trace(0), NONE);
        });
        // No ACT runs more than seven bodies: none is ever left out.
        holds(34, "the first 20 are kept.", () -> {
            int[][] ran = {{1, 2, 3}, {2, 3, 4}, {1, 3, 4}, {1, 2, 4}, {2, 3, 7}, {2, 4, 5}, {1, 3, 5}};
            for (int kind = 0; kind < 7; kind++) {
                MatFlip x = new MatFlip();
                x.player(kind, 3, 0, 1, 0);
                for (int act = 0; act < 3; act++) {
                    x.act(0, act, 1);
                    due("kind " + kind + " act " + act, x.count(5), ran[kind][act]);
                    due("the last one is kept", x.trace(ran[kind][act] - 1), 1);
                    due("none behind", x.trace(ran[kind][act]), NONE);
                }
            }
        });
    }

    private static void image() {
        holds(36, "THE IMAGE is taken: how many PLAYERS there are.", () -> {
            MatFlip x = new MatFlip();
            for (int i = 0; i <= 6; i++) {
                due("players " + i, x.image(), i);
                x.player(0, 0, 0, 1, 0);
            }
            due("taken again", x.image(), 6);
            MatFlip y = one(5, 1, 0);
            y.image();
            y.set(0, 0, 6);
            y.image();
            y.set(0, 0, 7);
            due("back", y.undo(), 1);
            due("the latest counts", y.of(0, 2), 6);
        });
        holds(36, "THE IMAGE: all that there is (but THE IMAGE and THE TRACE).", () -> {
            MatFlip x = Whole.rich();
            x.image();
            due("the trace stays when it is taken", x.trace(0), 41);
            x.act(2, 0, 5);
            x.undo();
            due("the trace is of the latest act", x.trace(0), 51);
            due("not of the image", x.count(5), 2);
            due("the image is still there", x.undo(), 5);
            MatFlip y = new MatFlip();
            y.image();
            y.player(0, 0, 0, 1, 0);
            due("nobody", y.undo(), 0);
            due("the image of nobody is still there", y.undo(), 0);
        });
    }

    private static void undo() {
        holds(37, "All is as THE IMAGE: how many PLAYERS.", () -> {
            MatFlip x = Whole.rich(), y = Whole.rich();
            x.image();
            y.image();
            spoil(x);
            due("players", x.undo(), 5);
            x.act(3, 2, 5);
            dueAll("all is as ahead", Whole.told(x), Whole.told(y));
            spoil(x);
            spoil(x);
            due("players again", x.undo(), 5);
            x.act(3, 2, 5);
            MatFlip z = Whole.rich();
            z.image();
            dueAll("all is as ahead again", Whole.told(x), Whole.told(z));
        });
        holds(37, "STATE: there is none.", () -> {
            staysIn(MatFlip::new, "undo", MatFlip::undo, STATE);
            MatFlip x = new MatFlip();
            x.player(0, 3, 0, 1, 0);
            Checks.feed(x, "pay");
            x.act(0, 0, 1);
            due("undo", x.undo(), STATE);
            due("players", x.count(0), 1);
            due("signs", x.count(4), 3);
            due("bodies", x.count(5), 1);
            due("image", x.image(), 1);
            due("undo", x.undo(), 1);
        });
        holds(37, "STATE as told; FULL.", () -> {
            due("state", new MatFlip().undo(), STATE);
            MatFlip x = Whole.full();
            due("nothing is full to undo", x.undo(), 6);
        });
    }

    /** Changes something of all that can be changed. */
    private static void spoil(MatFlip x) {
        for (int k = 0; k < 4; k++) x.row(0, k, k == 0 ? 9 : 2);
        for (int p = 0; p < 5; p++) {
            for (int what = 0; what < 3; what++) x.set(p, what, 9);
            x.go(p, 60, 0, 0);
        }
        x.player(6, 1, 1, 1, 1);
        x.see(-1, 0, 0, 0);
        x.see(4, 1, 1, 1);
        x.book(-1, 0);
        x.book(4, 1);
        Checks.feed(x, " 99");
        x.inn();
        Checks.inn(x, "wide 1;glue 50 n>0");
        Checks.feed(x, "x");
        x.act(1, 2, 9);
    }

    private static void undone() {
        holds(37, "All is as THE IMAGE", () -> {
            MatFlip x = new MatFlip();
            x.player(6, 3, 0, 1, 500);
            Checks.inn(x, "wide 9;pay 3");
            x.image();
            for (int i = 1; i < 6; i++) x.player(0, 0, 0, 1, 0);
            for (int i = 1; i < 5; i++) Checks.inn(x, "pay 1");
            for (int i = 0; i < 8; i++) x.see(5, 1, 1, 1);
            for (int i = 0; i < 8; i++) x.book(5, 1);
            x.row(0, 0, 9);
            x.go(0, 99, 0, 0);
            for (int i = 0; i < 100; i++) x.feed('p');
            due("one player", x.undo(), 1);
            dueAll("counts", new long[] {x.count(0), x.count(1), x.count(2), x.count(3), x.count(4)}, 1, 1, 0, 0, 0);
            due("try", x.told(0), 0);
            due("wide of the inn that held", x.told(1), 9);
            due("pay of it", x.told(2), 3);
            due("purse", x.of(0, 6), 500);
            due("player 5 is gone", x.of(5, 0), NONE);
            due("what was seen of it, too", x.can(0), NONE);
            due("the row", x.row(0, 0, 1), 4);
            due("a player", x.player(0, 0, 0, 1, 0), 1);
            due("an inn", Checks.inn(x, "pay 5"), 1);
            due("seen", x.see(1, 1, 1, 1), 1);
            due("a row of the book", x.book(1, 1), 1);
            due("a sign", x.feed('p'), 1);
            due("undone once more", x.undo(), 1);
            due("the row as the image, not as it was set since", x.row(0, 0, 1), 4);
            due("no second player", x.of(1, 0), NONE);
        });
    }

    private static void count() {
        holds(38, "0 PLAYERS, 1 INNS, 2 of SEEN, 3 rows of BOOK, 4 signs of THE TAPE, 5 bodies that ran in the latest act()", () -> {
            MatFlip x = new MatFlip();
            for (int what = 0; what < 6; what++) due("at first " + what, x.count(what), 0);
            MatFlip y = Whole.full();
            int[] due = {6, 5, 8, 8, 100, 7};
            for (int what = 0; what < 6; what++) due("full " + what, y.count(what), due[what]);
            MatFlip z = Whole.rich();
            int[] rich = {5, 2, 3, 3, 3, 7};
            for (int what = 0; what < 6; what++) due("rich " + what, z.count(what), rich[what]);
        });
        holds(38, "(all, kept or not).", () -> {
            MatFlip x = new MatFlip();
            x.player(4, 0, 0, 1, 0);
            for (int i = 0; i < 10; i++) {
                x.act(0, 2, i);
                due("of the latest one alone", x.count(5), 7);
            }
        });
        holds(38, "NONE.", () -> {
            for (int what : out(0, 5)) stays("count " + what, x -> x.count(what), NONE);
        });
    }
}
