/** Promises 4 to 7 and 35: players, what they have, what is set of them, the KIND one is taken for. */
final class EdgesOfPlayers extends Edges {
    /** For each KIND the one it stands under; KIND 0 stands under none. */
    private static final int[] ABOVE = {-1, 0, 0, 0, 1, 2, 3};

    private EdgesOfPlayers() {
    }

    static void all() {
        player();
        of();
        unsure();
        set();
        row();
        as();
    }

    private static void player() {
        holds(4, "PLAYERS are numbered from 0 on, 6 at most,", () -> {
            MatFlip x = new MatFlip();
            for (int i = 0; i < 6; i++) {
                due("number", x.player(0, 0, 0, 1, 0), i);
                due("players", x.count(0), i + 1);
            }
            due("a seventh one", x.player(0, 0, 0, 1, 0), FULL);
            due("players", x.count(0), 6);
            due("the sixth is there", x.of(5, 3), 1);
            due("the seventh isn't", x.of(6, 3), NONE);
        });
        holds(4, "A PLAYER: its number.", () -> {
            MatFlip x = new MatFlip();
            due("first", x.player(6, 9, 20, 9, 9999), 0);
            due("second, the same", x.player(6, 9, 20, 9, 9999), 1);
        });
        holds(4, "each of a KIND: 0 PLAYER; 1 SURE, 2 BOLD, 3 SLACK under PLAYER; 4 CALM under SURE; 5 DRUNK under BOLD; "
            + "6 TOLD under SLACK;", () -> {
            for (int kind = 0; kind < 7; kind++) {
                MatFlip x = new MatFlip();
                due("kind " + kind, x.player(kind, 1, 0, 1, 0), 0);
                due("its kind", x.of(0, 0), kind);
            }
        });
        holds(4, "a number v (0 .. 9),", () -> {
            MatFlip x = new MatFlip();
            due("0", x.player(0, 0, 0, 1, 0), 0);
            due("9", x.player(0, 9, 0, 1, 0), 1);
            due("v 0", x.of(0, 1), 0);
            due("v 9", x.of(1, 1), 9);
        });
        holds(4, "SKILL (0 .. 20),", () -> {
            MatFlip x = new MatFlip();
            due("0", x.player(0, 0, 0, 1, 0), 0);
            due("20", x.player(0, 0, 20, 1, 0), 1);
            due("skill 0", x.of(0, 2), 0);
            due("skill 20", x.of(1, 2), 20);
        });
        holds(4, "a HAND (1 .. 9),", () -> {
            MatFlip x = new MatFlip();
            due("1", x.player(0, 0, 0, 1, 0), 0);
            due("9", x.player(0, 0, 0, 9, 0), 1);
            due("hand 1", x.of(0, 3), 1);
            due("hand 9", x.of(1, 3), 9);
        });
        holds(4, "a PURSE (0 .. 9999);", () -> {
            MatFlip x = new MatFlip();
            due("0", x.player(0, 0, 0, 1, 0), 0);
            due("9999", x.player(0, 0, 0, 1, 9999), 1);
            due("purse 0", x.of(0, 6), 0);
            due("purse 9999", x.of(1, 6), 9999);
        });
        holds(4, "NONE: kind;", () -> {
            for (int kind : out(0, 6)) {
                stays("kind " + kind, x -> x.player(kind, 0, 0, 1, 0), NONE);
                stays("kind " + kind + ", all else wrong", x -> x.player(kind, 10, 21, 0, -1), NONE);
            }
            staysIn(Whole::full, "none ahead of full", x -> x.player(7, 0, 0, 1, 0), NONE);
        });
        holds(4, "BAD: v, skill, hand, purse;", () -> {
            for (int v : out(0, 9)) stays("v " + v, x -> x.player(0, v, 0, 1, 0), BAD);
            for (int skill : out(0, 20)) stays("skill " + skill, x -> x.player(0, 0, skill, 1, 0), BAD);
            for (int hand : out(1, 9)) stays("hand " + hand, x -> x.player(0, 0, 0, hand, 0), BAD);
            for (int purse : out(0, 9999)) stays("purse " + purse, x -> x.player(0, 0, 0, 1, purse), BAD);
            staysIn(Whole::full, "bad ahead of full, v", x -> x.player(0, 10, 0, 1, 0), BAD);
            staysIn(Whole::full, "bad ahead of full, skill", x -> x.player(0, 0, 21, 1, 0), BAD);
            staysIn(Whole::full, "bad ahead of full, hand", x -> x.player(0, 0, 0, 0, 0), BAD);
            staysIn(Whole::full, "bad ahead of full, purse", x -> x.player(0, 0, 0, 1, 10000), BAD);
        });
        holds(4, "FULL.", () -> {
            for (int kind = 0; kind < 7; kind++) {
                int k = kind;
                staysIn(Whole::full, "a seventh one of kind " + k, x -> x.player(k, 0, 0, 1, 0), FULL);
            }
            MatFlip x = one(0, 1, 0);
            x.image();
            for (int i = 1; i < 6; i++) x.player(0, 0, 0, 1, 0);
            due("full", x.player(0, 0, 0, 1, 0), FULL);
            x.undo();
            due("not full any more", x.player(0, 0, 0, 1, 0), 1);
        });
    }

    private static void of() {
        holds(5, "Of a PLAYER what 0 KIND, 1 v, 2 SKILL, 3 HAND, 4 GLASSES, 5 SCORE, 6 PURSE, 7 UNSURE.", () -> {
            MatFlip x = new MatFlip();
            x.player(0, 0, 0, 1, 0);
            x.player(5, 4, 9, 7, 321);
            x.set(1, 1, 6);
            x.set(1, 2, 77);
            int[] due = {5, 4, 9, 7, 6, 77, 321, 3 + 12 - 2};
            for (int what = 0; what < 8; what++) due("what " + what, x.of(1, what), due[what]);
            int[] other = {0, 0, 0, 1, 0, 0, 0, 3};
            for (int what = 0; what < 8; what++) due("what " + what + " of the other", x.of(0, what), other[what]);
        });
        holds(5, "GLASSES (0 .. 9; 0 at first),", () -> {
            MatFlip x = one(0, 1, 0);
            due("at first", x.of(0, 4), 0);
            x.set(0, 1, 9);
            due("9", x.of(0, 4), 9);
        });
        holds(5, "a SCORE (0 .. 99; 0 at first),", () -> {
            MatFlip x = one(0, 1, 0);
            due("at first", x.of(0, 5), 0);
            x.set(0, 2, 99);
            due("99", x.of(0, 5), 99);
        });
        holds(5, "NONE.", () -> {
            for (int player : NOBODY) stays("of " + player, x -> x.of(player, 0), NONE);
            for (int what : out(0, 7)) stays("what " + what, x -> x.of(0, what), NONE);
            stays("both", x -> x.of(5, 8), NONE);
            staysIn(MatFlip::new, "of nobody", x -> x.of(0, 0), NONE);
            staysIn(Whole::full, "of a seventh one", x -> x.of(6, 0), NONE);
        });
    }

    private static void unsure() {
        holds(5, "UNSURE of a player: PLAYER, BOLD, SLACK, TOLD: 3 and GLASSES, together, less SKILL by 4 (cut), 0 at least.", () -> {
            for (int kind : new int[] {0, 2, 3, 6}) {
                unsure(kind, 0, 0, 3);
                unsure(kind, 3, 0, 3);
                unsure(kind, 4, 0, 2);
                unsure(kind, 7, 0, 2);
                unsure(kind, 8, 0, 1);
                unsure(kind, 11, 0, 1);
                unsure(kind, 12, 0, 0);
                unsure(kind, 20, 0, 0);
                unsure(kind, 20, 1, 0);
                unsure(kind, 20, 2, 0);
                unsure(kind, 20, 3, 1);
                unsure(kind, 19, 2, 1);
                unsure(kind, 0, 9, 12);
                unsure(kind, 20, 9, 7);
            }
        });
        holds(5, "SURE: the half of that (cut).", () -> {
            unsure(1, 0, 0, 1);
            unsure(1, 4, 0, 1);
            unsure(1, 8, 0, 0);
            unsure(1, 0, 1, 2);
            unsure(1, 0, 8, 5);
            unsure(1, 0, 9, 6);
            unsure(1, 20, 9, 3);
            unsure(1, 20, 0, 0);
            unsure(1, 20, 3, 0);
            unsure(1, 20, 4, 1);
        });
        holds(5, "CALM: as SURE, GLASSES being taken for 0.", () -> {
            for (int glasses = 0; glasses < 10; glasses++) {
                unsure(4, 0, glasses, 1);
                unsure(4, 4, glasses, 1);
                unsure(4, 7, glasses, 1);
                unsure(4, 8, glasses, 0);
                unsure(4, 20, glasses, 0);
            }
        });
        holds(5, "DRUNK: as BOLD, GLASSES being taken twice.", () -> {
            unsure(5, 0, 0, 3);
            unsure(5, 0, 1, 5);
            unsure(5, 0, 9, 21);
            unsure(5, 20, 1, 0);
            unsure(5, 20, 2, 2);
            unsure(5, 20, 9, 16);
            unsure(5, 20, 0, 0);
        });
    }

    private static void unsure(int kind, int skill, int glasses, int want) {
        for (int v = 0; v < 10; v += 9) {
            MatFlip x = new MatFlip();
            x.player(kind, v, skill, 1, 0);
            x.set(0, 1, glasses);
            due("kind " + kind + ", v " + v + ", skill " + skill + ", glasses " + glasses, x.of(0, 7), want);
        }
    }

    private static void set() {
        holds(6, "Of a PLAYER what 0 SKILL, 1 GLASSES, 2 SCORE becomes n:", () -> {
            int[] greatest = {20, 9, 99}, at = {2, 4, 5};
            for (int what = 0; what < 3; what++) {
                MatFlip x = one(7, 1, 50);
                x.player(0, 0, 7, 1, 50);
                x.set(1, what, greatest[what]);
                due("the greatest of what " + what, x.of(1, at[what]), greatest[what]);
                due("of the other it stays", x.of(0, at[what]), what == 0 ? 7 : 0);
                x.set(1, what, 0);
                due("0 of what " + what, x.of(1, at[what]), 0);
                due("the purse stays", x.of(1, 6), 50);
                for (int other = 0; other < 3; other++) {
                    if (other != what) due("what " + other + " stays", x.of(1, at[other]), other == 0 ? 7 : 0);
                }
            }
        });
        holds(6, "what it was.", () -> {
            int[] greatest = {20, 9, 99};
            for (int what = 0; what < 3; what++) {
                MatFlip x = one(0, 1, 0);
                due("at first", x.set(0, what, greatest[what]), 0);
                due("then", x.set(0, what, greatest[what]), greatest[what]);
                due("the same again", x.set(0, what, 1), greatest[what]);
                due("then", x.set(0, what, 0), 1);
            }
        });
        holds(6, "NONE;", () -> {
            for (int player : NOBODY) {
                stays("set of " + player, x -> x.set(player, 0, 0), NONE);
                stays("set of " + player + ", n is bad", x -> x.set(player, 0, 21), NONE);
            }
            for (int what : out(0, 2)) {
                stays("set what " + what, x -> x.set(0, what, 0), NONE);
                stays("set what " + what + ", n is bad", x -> x.set(0, what, -1), NONE);
            }
        });
        holds(6, "BAD.", () -> {
            for (int n : out(0, 20)) stays("skill " + n, x -> x.set(0, 0, n), BAD);
            for (int n : out(0, 9)) stays("glasses " + n, x -> x.set(0, 1, n), BAD);
            for (int n : out(0, 99)) stays("score " + n, x -> x.set(0, 2, n), BAD);
        });
    }

    private static void row() {
        holds(7, "TOLD ones a ROW of four numbers (0 .. 9; 4 at first).", () -> {
            MatFlip x = new MatFlip();
            x.player(6, 0, 0, 1, 0);
            for (int k = 0; k < 4; k++) due("at first " + k, x.row(0, k, 9), 4);
            for (int k = 0; k < 4; k++) due("9 " + k, x.row(0, k, 0), 9);
            for (int k = 0; k < 4; k++) due("0 " + k, x.row(0, k, 4), 0);
        });
        holds(7, "The ROW of a TOLD one becomes n (0 .. 9) for TRIES modulo 4 being k:", () -> {
            MatFlip x = new MatFlip();
            x.player(6, 0, 0, 1, 0);
            x.player(6, 0, 0, 1, 0);
            int[] row = {9, 0, 5, 3};
            for (int k = 3; k >= 0; k--) x.row(1, k, row[k]);
            for (int t = 0; t < 9; t++) {
                due("of one by try " + t, x.pile(1, 1, 10, 0), 50 + row[t % 4] - 4);
                due("of the other one", x.pile(0, 1, 10, 0), 50);
                x.go(0, 1, 0, 0);
            }
        });
        holds(7, "what it was.", () -> {
            MatFlip x = new MatFlip();
            x.player(6, 0, 0, 1, 0);
            due("4", x.row(0, 2, 2), 4);
            due("2", x.row(0, 2, 2), 2);
            due("2 again", x.row(0, 2, 8), 2);
            due("another k", x.row(0, 1, 8), 4);
        });
        holds(7, "NONE: player, k;", () -> {
            for (int player : NOBODY) stays("row of " + player, x -> x.row(player, 4, 10), NONE);
            for (int k : out(0, 3)) {
                stays("row " + k, x -> x.row(0, k, 0), NONE);
                stays("row " + k + ", n is bad", x -> x.row(0, k, 10), NONE);
                stays("row " + k + " of another kind", x -> x.row(1, k, 0), NONE);
            }
        });
        holds(7, "BAD;", () -> {
            for (int n : out(0, 9)) {
                stays("row n " + n, x -> x.row(0, 0, n), BAD);
                stays("row n " + n + " of another kind", x -> x.row(1, 3, n), BAD);
            }
        });
        holds(7, "STATE: another KIND.", () -> {
            for (int player = 1; player < 5; player++) {
                int p = player;
                for (int k = 0; k < 4; k++) {
                    int place = k;
                    stays("row " + k + " of a player of another kind", x -> x.row(p, place, 9), STATE);
                }
            }
            for (int kind = 0; kind < 6; kind++) {
                MatFlip x = new MatFlip();
                x.player(kind, 0, 0, 1, 0);
                due("kind " + kind, x.row(0, 0, 4), STATE);
            }
        });
    }

    private static void as() {
        holds(35, "A PLAYER taken for a KIND k (0 .. 6), or one under that: its v.", () -> {
            for (int kind = 0; kind < 7; kind++) {
                MatFlip x = new MatFlip();
                x.player(kind, 9, 0, 1, 0);
                x.player(kind, 0, 0, 1, 0);
                for (int k = kind; k >= 0; k = ABOVE[k]) {
                    due("kind " + kind + " for " + k, x.as(0, k), 9);
                    due("v 0", x.as(1, k), 0);
                }
            }
        });
        holds(35, "NONE: player, k;", () -> {
            for (int player : NOBODY) stays("as " + player, x -> x.as(player, 0), NONE);
            for (int k : out(0, 6)) stays("as k " + k, x -> x.as(0, k), NONE);
            stays("both", x -> x.as(5, 7), NONE);
        });
        holds(35, "-6: it is of another KIND.", () -> {
            for (int kind = 0; kind < 7; kind++) {
                MatFlip x = new MatFlip();
                x.player(kind, 3, 0, 1, 0);
                for (int k = 0; k < 7; k++) {
                    if (k == kind || k == ABOVE[kind] || k == 0) continue;
                    due("kind " + kind + " for " + k, x.as(0, k), -6);
                }
            }
        });
    }
}
