/** Promises 19 to 22: MORE, RECORD, RAISE, WAGER. */
final class EdgesOfPairs extends Edges {
    private EdgesOfPairs() {
    }

    static void all() {
        more();
        record();
        raise();
        raiseRefused();
        wager();
        wagerRefused();
    }

    /** Player 0 catches 5 of ten up to 10 times the hand, player 1 has the SCORE. */
    private static MatFlip two(int hand, int score) {
        MatFlip x = one(0, hand, 100);
        x.player(0, 0, 20, 9, 100);
        x.set(1, 2, score);
        return x;
    }

    private static void more() {
        holds(19, "MORE of two players for t TRIES (1 .. 6): how likely the first catches all of one mat more than SCORE of the second", () -> {
            more(two(2, 19), 1, 1, 2);
            more(two(2, 20), 1, 0, 1);
            more(two(2, 20), 6, 0, 1);
            more(two(9, 0), 1, 1, 2);
            MatFlip x = two(2, 19);
            x.set(0, 2, 90);
            more(x, 1, 1, 2);
        });
        holds(19, "(99 at most)", () -> {
            // WIDE 0 and no SKILL: 1 of ten for 90 mats and more, once they stick.
            MatFlip x = two(9, 99);
            more(x, 1, 0, 1);
            Checks.inn(x, "glue 9 n=9;wide 0");
            more(x, 1, 1, 10);
            x.set(1, 2, 98);
            more(x, 1, 1, 10);
            x.set(1, 2, 89);
            more(x, 1, 1, 10);
            Checks.inn(x, "glue 9 n=9;wide 1");
            x.set(0, 0, 20);
            x.set(1, 2, 97);
            more(x, 1, 1, 1);
            Checks.inn(x, "glue 9 n=9;wide 0");
            more(x, 1, 0, 1);
        });
        holds(19, "in some of t TRIES by BEST,", () -> {
            more(two(2, 19), 2, 3, 4);
            more(two(2, 19), 3, 7, 8);
            more(two(2, 19), 4, 15, 16);
            more(two(2, 19), 5, 31, 32);
            more(two(2, 19), 6, 63, 64);
            MatFlip sure = two(2, 19);
            sure.set(0, 0, 20);
            more(sure, 1, 1, 1);
            more(sure, 6, 1, 1);
            // 1 of ten: 1 less 0.9 six times.
            MatFlip x = one("wide 0", 0, 9, 0);
            x.player(0, 0, 0, 9, 0);
            x.set(1, 2, 9);
            more(x, 1, 1, 10);
            more(x, 6, 468559, 1000000);
        });
        holds(19, "SKILL staying as it is: a fraction in lowest terms.", () -> {
            MatFlip x = one("slip 99 s>11|y>0;wide 0", 11, 9, 0);
            x.player(0, 0, 0, 9, 0);
            x.set(1, 2, 9);
            more(x, 2, 19, 100);
            due("skill", x.of(0, 2), 11);
        });
        holds(19, "MORE.", () -> more(two(1, 9), 1, 1, 2));
        holds(19, "NO: players, one is both, tries, part.", () -> {
            for (int player : NOBODY) {
                stays("more of " + player, x -> x.more(player, 0, 1, 0), NO);
                stays("more than " + player, x -> x.more(0, player, 1, 0), NO);
                stays("more of and than " + player, x -> x.more(player, player, 1, 0), NO);
            }
            for (int player = 0; player < 5; player++) {
                int p = player;
                stays("more than oneself", x -> x.more(p, p, 1, 0), NO);
            }
            for (int tries : out(1, 6)) stays("more for " + tries, x -> x.more(0, 1, tries, 0), NO);
            for (int part : NO_PART) stays("more part " + part, x -> x.more(0, 1, 1, part), NO);
        });
    }

    private static void more(MatFlip x, int tries, long above, long below) {
        due("more for " + tries, x.more(0, 1, tries, 0), above);
        due("more for " + tries + ", below", x.more(0, 1, tries, 1), below);
    }

    private static void record() {
        holds(20, "RECORD of a player and n: the fewest TRIES by BEST by which that is likely by one half or more", () -> {
            // WIDE 0 and no SKILL: UNSURE 3, of 10 mats TURN is 50 by DRAW 4 alone.
            record("wide 0", 0, 0, 1, 7);
            record("wide 3", 0, 1, 2, 4);
            record("wide 5", 0, 0, 4, 2);
            record("wide 6", 0, 1, 4, 2);
            record("wide 4", 0, 0, 3, 2);
            record("wide 6", 0, 0, 5, 1);
            record("wide 6", 20, 0, 10, 1);
            record("wide 3", 0, 0, 3, 2);
        });
        holds(20, "(-5: by none).", () -> {
            due("21 by hand 2", one(20, 2, 0).record(0, 21), NOWHERE);
            due("20 by hand 2", one(20, 2, 0).record(0, 20), 1);
            due("99", one(20, 9, 0).record(0, 99), NOWHERE);
        });
        holds(20, "RECORD; -5.", () -> {
            due("one", one(20, 2, 0).record(0, 1), 1);
            stays("none", x -> x.record(3, 99), NOWHERE);
        });
        holds(20, "NONE;", () -> {
            for (int player : NOBODY) {
                stays("record of " + player, x -> x.record(player, 1), NONE);
                stays("record of " + player + ", n is bad", x -> x.record(player, 0), NONE);
            }
        });
        holds(20, "BAD.", () -> {
            for (int n : NO_MATS) stays("record of " + n, x -> x.record(0, n), BAD);
        });
    }

    private static void record(String inn, int skill, int glasses, int odds, int want) {
        MatFlip x = one(inn, skill, 9, 0);
        x.set(0, 1, glasses);
        due("odds by " + inn, x.best(0, 10, 1), odds);
        due("record by odds " + odds, x.record(0, 10), want);
    }

    private static void raise() {
        holds(21, "RAISE of two players from n, for m TRIES (1 .. 8):", () -> {
            MatFlip x = one(20, 9, 0);
            x.player(0, 0, 20, 9, 0);
            raise(x, 1, 1, 0, 1, 1, 1);
            raise(x, 83, 8, 0, 1, 1, 1);
            raise(x, 84, 8, 1, 1, 0, 1);
            raise(x, 84, 7, 0, 1, 1, 1);
            raise(x, 85, 8, 0, 1, 0, 1);
            raise(x, 85, 6, 0, 1, 1, 1);
            raise(x, 90, 1, 0, 1, 1, 1);
            raise(x, 91, 1, 0, 1, 0, 1);
        });
        holds(21, "the first tries n, the second one mat more", () -> {
            MatFlip x = one(20, 2, 0);
            x.player(0, 0, 20, 3, 0);
            raise(x, 20, 1, 0, 1, 1, 1);
            raise(x, 20, 2, 0, 1, 1, 1);
            raise(x, 21, 2, 0, 1, 0, 1);
            MatFlip y = one(20, 3, 0);
            y.player(0, 0, 20, 2, 0);
            raise(y, 20, 1, 0, 1, 1, 1);
            raise(y, 20, 2, 1, 1, 0, 1);
            raise(y, 19, 2, 0, 1, 1, 1);
        });
        holds(21, "(99 at most),", () -> {
            MatFlip x = one("slip 99 n<9;glue 9 n=9", 20, 9, 0);
            x.player(0, 0, 20, 9, 0);
            raise(x, 99, 8, 0, 1, 1, 1);
            raise(x, 98, 8, 0, 1, 1, 1);
            raise(x, 92, 8, 0, 1, 1, 1);
            raise(x, 89, 8, 0, 1, 0, 1);
        });
        holds(21, "and so on by turns, by BEST;", () -> {
            // The first one catches 5 of ten up to 20 mats, the second one all up to 90.
            MatFlip x = two(2, 0);
            raise(x, 10, 1, 0, 1, 1, 2);
            raise(x, 10, 2, 0, 1, 1, 2);
            raise(x, 10, 3, 0, 1, 1, 4);
            raise(x, 10, 8, 0, 1, 1, 16);
            raise(x, 18, 3, 0, 1, 1, 4);
            raise(x, 19, 3, 0, 1, 0, 1);
        });
        holds(21, "who does not catch all has lost;", () -> {
            MatFlip x = two(2, 0);
            raise(x, 21, 1, 0, 1, 0, 1);
            MatFlip y = one(20, 9, 0);
            y.player(0, 0, 0, 2, 0);
            raise(y, 10, 2, 1, 2, 1, 2);
            raise(y, 20, 2, 1, 1, 0, 1);
        });
        holds(21, "if nobody has by m TRIES, it is a draw:", () -> {
            MatFlip y = one(20, 9, 0);
            y.player(0, 0, 0, 2, 0);
            raise(y, 9, 1, 0, 1, 1, 1);
            raise(y, 9, 3, 1, 2, 1, 2);
            raise(y, 9, 4, 3, 4, 1, 4);
            raise(y, 13, 8, 15, 16, 1, 16);
            raise(y, 14, 8, 1, 1, 0, 1);
        });
        holds(21, "how likely the first wins, how likely it is a draw: fractions in lowest terms.", () -> {
            // WIDE 0: 10 mats are caught by 1 of ten of either; 11 too, which have the same half.
            MatFlip x = one("wide 0", 0, 9, 0);
            x.player(0, 0, 0, 9, 0);
            raise(x, 10, 1, 0, 1, 1, 10);
            raise(x, 10, 2, 9, 100, 1, 100);
            MatFlip y = one("wide 0;slip 99 y>0|s>0", 0, 9, 0);
            y.player(0, 0, 0, 9, 0);
            raise(y, 10, 2, 9, 100, 1, 100);
            MatFlip z = one("wide 99", 20, 9, 0);
            z.player(0, 0, 20, 9, 0);
            raise(z, 10, 8, 0, 1, 1, 1);
        });
    }

    private static void raise(MatFlip x, int n, int tries, long won, long wonBelow, long drawn, long drawnBelow) {
        String call = "from " + n + " for " + tries;
        due(call + " won", x.raise(0, 1, n, tries, 0, 0), won);
        due(call + " won, below", x.raise(0, 1, n, tries, 0, 1), wonBelow);
        due(call + " drawn", x.raise(0, 1, n, tries, 1, 0), drawn);
        due(call + " drawn, below", x.raise(0, 1, n, tries, 1, 1), drawnBelow);
    }

    private static void raiseRefused() {
        holds(21, "RAISE: what 0 a win of the first, 1 a draw.", () -> {
            MatFlip x = one(20, 9, 0);
            x.player(0, 0, 20, 1, 0);
            due("a win", x.raise(0, 1, 30, 2, 0, 0), 1);
            due("a draw", x.raise(0, 1, 30, 2, 1, 0), 0);
            due("a win of the other one", x.raise(1, 0, 30, 2, 0, 0), 0);
            due("a draw of the other one", x.raise(1, 0, 30, 2, 1, 0), 0);
        });
        holds(21, "NO: players, one is both, n, tries, what, part.", () -> {
            for (int player : NOBODY) {
                stays("raise of " + player, x -> x.raise(player, 0, 1, 1, 0, 0), NO);
                stays("raise with " + player, x -> x.raise(0, player, 1, 1, 0, 0), NO);
                stays("raise of and with " + player, x -> x.raise(player, player, 1, 1, 0, 0), NO);
            }
            for (int player = 0; player < 5; player++) {
                int p = player;
                stays("raise with oneself", x -> x.raise(p, p, 1, 1, 0, 0), NO);
            }
            for (int n : NO_MATS) stays("raise from " + n, x -> x.raise(0, 1, n, 1, 0, 0), NO);
            for (int tries : out(1, 8)) stays("raise for " + tries, x -> x.raise(0, 1, 1, tries, 0, 0), NO);
            for (int what : out(0, 1)) stays("raise what " + what, x -> x.raise(0, 1, 1, 1, what, 0), NO);
            for (int part : NO_PART) stays("raise part " + part, x -> x.raise(0, 1, 1, 1, 1, part), NO);
        });
    }

    private static void wager() {
        holds(22, "WAGER of two players for s (0 .. 999):", () -> {
            MatFlip x = one(20, 9, 9999);
            x.player(0, 0, 20, 9, 0);
            due("0", x.wager(0, 1, 0), 0);
            due("1", x.wager(0, 1, 1), 1);
            due("999", x.wager(0, 1, 999), 1);
        });
        holds(22, "the first, whose TRY it is (one more than SCORE of the second, as in MORE),", () -> {
            MatFlip x = one(20, 2, 100);
            x.player(0, 0, 0, 9, 100);
            x.set(1, 2, 19);
            due("20 by hand 2", x.wager(0, 1, 10), 1);
            x.set(1, 2, 20);
            due("21 by hand 2", x.wager(0, 1, 10), 0);
            due("1 by the other one, 5 of ten", x.wager(1, 0, 10), 0);
            x.set(1, 0, 20);
            due("1 by the other one, sure", x.wager(1, 0, 10), 1);
            Checks.inn(x, "glue 99 n=9");
            x.set(1, 2, 98);
            due("99", x.wager(0, 1, 10), 1);
            x.set(1, 2, 99);
            due("99 at most", x.wager(0, 1, 10), 1);
        });
        holds(22, "wins s by a catch of all in one TRY, and loses s else;", () -> {
            // What a mat on the floor costs is no part of it.
            MatFlip x = one("pay 99", 4, 9, 100);
            x.player(0, 0, 0, 9, 0);
            x.set(1, 2, 9);
            due("7 of ten", x.best(0, 10, 1), 7);
            due("of 10 mats", x.wager(0, 1, 1), 1);
        });
        holds(22, "it TAKES that, if PURSE is s or more,", () -> {
            MatFlip x = one(20, 9, 50);
            x.player(0, 0, 20, 9, 9999);
            due("as much", x.wager(0, 1, 50), 1);
            due("one more", x.wager(0, 1, 51), 0);
            due("one less", x.wager(0, 1, 49), 1);
            MatFlip y = one(20, 9, 0);
            y.player(0, 0, 20, 9, 9999);
            due("nothing, and nothing asked", y.wager(0, 1, 0), 0);
            due("nothing", y.wager(0, 1, 1), 0);
        });
        holds(22, "and the mean of what it has by that is above PURSE (1, 0).", () -> {
            MatFlip x = one(0, 9, 100);
            x.player(0, 0, 20, 9, 100);
            x.set(1, 2, 9);
            due("5 of ten", x.best(0, 10, 1), 5);
            due("as much as it has", x.wager(0, 1, 10), 0);
            x.set(1, 2, 3);
            due("4 of ten by glasses", x.set(0, 1, 1), 0);
            due("4 of ten", x.best(0, 4, 1), 4);
            due("less", x.wager(0, 1, 10), 0);
            MatFlip y = one("wide 8", 0, 9, 100);
            y.player(0, 0, 20, 9, 100);
            y.set(1, 2, 1);
            due("6 of ten", y.best(0, 2, 1), 6);
            due("more", y.wager(0, 1, 1), 1);
            due("more by all it has", y.wager(0, 1, 100), 1);
        });
    }

    private static void wagerRefused() {
        holds(22, "WAGER: 1, 0.", () -> {
            MatFlip x = two(1, 9);
            due("5 of ten", x.wager(0, 1, 5), 0);
            due("sure", x.wager(1, 0, 5), 1);
            due("no purse is changed", x.of(0, 6) + x.of(1, 6), 200);
        });
        holds(22, "NONE;", () -> {
            for (int player : NOBODY) {
                stays("wager of " + player, x -> x.wager(player, 0, 1), NONE);
                stays("wager with " + player, x -> x.wager(0, player, 1), NONE);
                stays("wager of and with " + player, x -> x.wager(player, player, 1), NONE);
                stays("wager with " + player + ", stake is bad", x -> x.wager(0, player, 1000), NONE);
            }
        });
        holds(22, "BAD.", () -> {
            for (int stake : out(0, 999)) stays("wager for " + stake, x -> x.wager(0, 1, stake), BAD);
        });
        holds(22, "BAD a number is not as told, or two PLAYERS are one;", () -> {
            for (int player = 0; player < 5; player++) {
                int p = player;
                stays("wager with oneself", x -> x.wager(p, p, 1), BAD);
                stays("wager with oneself, stake is bad", x -> x.wager(p, p, -1), BAD);
            }
        });
    }
}
