/** Promises 9 to 11: piles, what a TRY would catch, TRIES done. */
final class EdgesOfTries extends Edges {
    private EdgesOfTries() {
    }

    static void all() {
        turn();
        opens();
        pile();
        catches();
        would();
        done();
        go();
    }

    private static void turn() {
        holds(9, "TURN of it: 5 times FORCE, less the half of n (cut), and by KIND: PLAYER, SURE, CALM: nothing.", () -> {
            for (int kind : new int[] {0, 1, 4}) {
                for (int v = 0; v < 10; v += 9) {
                    turn(kind, v, 1, 0, 0);
                    turn(kind, v, 2, 0, -1);
                    turn(kind, v, 3, 0, -1);
                    turn(kind, v, 99, 0, -49);
                    turn(kind, v, 98, 0, -49);
                    turn(kind, v, 1, 1, 5);
                    turn(kind, v, 1, 20, 100);
                    turn(kind, v, 99, 20, 51);
                }
            }
        });
        holds(9, "BOLD, DRUNK: v more.", () -> {
            for (int kind : new int[] {2, 5}) {
                turn(kind, 0, 1, 0, 0);
                turn(kind, 9, 1, 0, 9);
                turn(kind, 9, 99, 0, -40);
                turn(kind, 9, 1, 20, 109);
            }
        });
        holds(9, "SLACK: v less.", () -> {
            turn(3, 0, 1, 0, 0);
            turn(3, 9, 1, 0, -9);
            turn(3, 9, 99, 0, -58);
            turn(3, 9, 1, 20, 91);
        });
        holds(9, "TOLD: as SLACK, and its ROW at TRY modulo 4, less 4.", () -> {
            turn(6, 0, 1, 0, 0);
            turn(6, 9, 1, 0, -9);
            turn(6, 9, 99, 20, 42);
            MatFlip x = new MatFlip();
            x.player(6, 9, 0, 1, 0);
            x.row(0, 0, 0);
            x.row(0, 1, 9);
            x.row(0, 3, 8);
            int[] more = {-4, 5, 0, 4};
            for (int t = 0; t < 10; t++) {
                due("the least by try " + t, x.pile(0, 99, 0, 0), -58 + more[t % 4]);
                due("the greatest by try " + t, x.pile(0, 1, 20, 0), 91 + more[t % 4]);
                x.go(0, 1, 0, 0);
            }
        });
    }

    private static void turn(int kind, int v, int n, int force, int want) {
        MatFlip x = new MatFlip();
        x.player(kind, v, 0, 1, 0);
        due("kind " + kind + ", v " + v + ", " + n + " mats, force " + force, x.pile(0, n, force, 0), want);
    }

    private static void opens() {
        holds(9, "OPENS of it: n, and the n of all slip whose E holds,", () -> {
            opens("slip 0 p=0", 1, 1);
            opens("slip 99 p=0", 99, 198);
            opens("slip 99 p=1", 99, 99);
            opens("slip 9 p=0;slip 8 p=1;slip 7 p=0", 1, 17);
            opens("slip 99 p=0;".repeat(7) + "slip 99 p=0", 99, 99 + 8 * 99);
        });
        holds(9, "less those of all glue,", () -> {
            opens("glue 0 p=0", 1, 1);
            opens("glue 9 p=0", 10, 1);
            opens("glue 9 p=1", 10, 10);
            opens("glue 9 p=0;glue 8 p=1;glue 7 p=0", 20, 4);
        });
        holds(9, "together (0 at least).", () -> {
            opens("glue 9 p=0", 9, 0);
            opens("glue 9 p=0", 8, 0);
            opens("glue 99 p=0", 99, 0);
            opens("glue 99 p=0;".repeat(7) + "glue 99 p=0", 99, 0);
            opens("glue 20 p=0;slip 15 p=0", 9, 4);
            opens("slip 15 p=0;glue 20 p=0", 9, 4);
            opens("glue 20 p=0;slip 11 p=0", 9, 0);
            opens("glue 20 p=0;slip 12 p=0", 9, 1);
            opens("glue 99 p=0;slip 99 p=0;glue 1 p=0", 1, 0);
        });
    }

    private static void opens(String inn, int n, int want) {
        due(n + " mats, " + inn, one(inn, 0, 1, 0).pile(0, n, 7, 1), want);
    }

    private static void pile() {
        holds(9, "Of a pile of n what 0 TURN by a FORCE, 1 OPENS.", () -> {
            MatFlip x = one("slip 3 n=2", 0, 1, 0);
            due("turn", x.pile(0, 20, 4, 0), 10);
            due("opens", x.pile(0, 20, 4, 1), 23);
            due("opens by any force", x.pile(0, 20, 20, 1), 23);
            asks("turn", y -> y.pile(0, 20, 4, 0));
            asks("opens", y -> y.pile(4, 99, 0, 1));
        });
        holds(9, "-1001: NONE;", () -> {
            for (int player : NOBODY) {
                stays("of " + player, x -> x.pile(player, 1, 0, 0), -1001);
                stays("of " + player + ", n and force are bad", x -> x.pile(player, 0, 21, 1), -1001);
            }
            for (int what : out(0, 1)) {
                stays("what " + what, x -> x.pile(0, 1, 0, what), -1001);
                stays("what " + what + ", n and force are bad", x -> x.pile(0, 100, -1, what), -1001);
            }
        });
        holds(9, "-1002: BAD.", () -> {
            for (int n : NO_MATS) {
                stays(n + " mats, turn", x -> x.pile(0, n, 0, 0), -1002);
                stays(n + " mats, opens", x -> x.pile(0, n, 0, 1), -1002);
            }
            for (int force : NO_FORCE) {
                stays("force " + force + ", turn", x -> x.pile(0, 1, force, 0), -1002);
                stays("force " + force + ", opens", x -> x.pile(0, 1, force, 1), -1002);
            }
        });
    }

    private static void catches() {
        holds(10, "OFF: how far TURN, and UNSURE times (DRAW less 4), together, is from 50.", () -> {
            // UNSURE 12: by DRAW 0 it is 48 less, by DRAW 9 60 more; WIDE 1 catches by OFF 0 and 1, the half by 2.
            MatFlip x = one("wide 1", 0, 9, 0);
            x.set(0, 1, 9);
            due("turn 98, draw 0: 50", x.would(0, 4, 20, 0), 4);
            due("turn 97, draw 0: 49", x.would(0, 6, 20, 0), 6);
            due("turn 96, draw 0: 48", x.would(0, 8, 20, 0), 4);
            due("turn 95, draw 0: 47", x.would(0, 10, 20, 0), 0);
            due("turn 99, draw 0: 51", x.would(0, 2, 20, 0), 2);
            due("turn 100, draw 0: 52", x.would(0, 1, 20, 0), 0);
            due("turn -10, draw 9: 50", x.would(0, 20, 0, 9), 20);
            due("turn -11, draw 9: 49", x.would(0, 22, 0, 9), 22);
            due("turn -9, draw 9: 51", x.would(0, 18, 0, 9), 18);
            due("turn -8, draw 9: 52", x.would(0, 16, 0, 9), 8);
            due("turn -7, draw 9: 53", x.would(0, 14, 0, 9), 0);
            due("turn 50, draw 4: 50", x.would(0, 10, 11, 4), 10);
            due("turn 50, draw 5: 62", x.would(0, 10, 11, 5), 0);
            due("turn 50, draw 3: 38", x.would(0, 10, 11, 3), 0);
            due("turn 62, draw 3: 50", x.would(0, 6, 13, 3), 6);
            due("turn 38, draw 5: 50", x.would(0, 4, 8, 5), 4);
        });
        holds(10, "It CATCHES all, if OFF is WIDE at most, and OPENS 10 times HAND at most;", () -> {
            MatFlip x = one(20, 9, 0);
            due("off 6 below", x.would(0, 12, 10, 4), 12);
            due("off 7 below", x.would(0, 14, 10, 4), 7);
            due("off 6 above", x.would(0, 8, 12, 4), 8);
            due("off 7 above", x.would(0, 6, 12, 4), 3);
            MatFlip w = one("wide 0", 20, 9, 0);
            due("wide 0, off 0", w.would(0, 10, 11, 4), 10);
            due("wide 0, off 1", w.would(0, 12, 11, 4), 0);
            MatFlip a = one("wide 99", 20, 9, 0);
            due("wide 99, off 99", a.would(0, 98, 0, 4), 49);
            due("wide 99, off 99 with less open", one("wide 99;glue 8 n=9", 20, 9, 0).would(0, 98, 0, 4), 98);
            for (int hand = 1; hand < 10; hand++) {
                MatFlip h = one(20, hand, 0);
                int n = 10 * hand, force = 10 + hand;
                due("10 times hand " + hand, h.would(0, n, force, 4), n);
                due("one more, hand " + hand, h.would(0, n + 1, force, 4), (n + 1) / 2);
            }
            MatFlip s = one("slip 1 n=1", 20, 1, 0);
            due("9 mats", s.would(0, 9, 10, 4), 9);
            due("10 mats, 11 open", s.would(0, 10, 11, 4), 5);
        });
        holds(10, "else the half (cut), if OFF is twice WIDE at most, and OPENS 20 times HAND at most;", () -> {
            MatFlip x = one(20, 9, 0);
            due("off 12 below", x.would(0, 24, 10, 4), 12);
            due("off 12 above", x.would(0, 6, 13, 4), 3);
            due("off 7, 15 mats", x.would(0, 15, 10, 4), 7);
            due("off 10, 1 mat", x.would(0, 1, 8, 4), 0);
            MatFlip h = one(20, 1, 0);
            due("20 by hand 1", h.would(0, 20, 12, 4), 10);
            due("19 by hand 1", h.would(0, 19, 12, 4), 9);
            due("20 by hand 1, off 10", h.would(0, 20, 10, 4), 10);
            due("20 by hand 1, off 10 above", h.would(0, 20, 14, 4), 10);
            MatFlip w = one("wide 1", 20, 9, 0);
            due("wide 1, off 2", w.would(0, 14, 11, 4), 7);
        });
        holds(10, "else none.", () -> {
            MatFlip x = one(20, 9, 0);
            due("off 13 below", x.would(0, 26, 10, 4), 0);
            due("off 13 above", x.would(0, 4, 13, 4), 0);
            MatFlip h = one(20, 1, 0);
            due("21 by hand 1, off 0", h.would(0, 21, 12, 4), 0);
            due("21 by hand 1, off 15", h.would(0, 21, 15, 4), 0);
            MatFlip w = one("wide 1", 20, 9, 0);
            due("wide 1, off 3", w.would(0, 16, 11, 4), 0);
        });
    }

    private static void would() {
        holds(10, "A TRY is of a player, with n mats (1 .. 99), by a FORCE (0 .. 20) and a DRAW (0 .. 9).", () -> {
            MatFlip x = one("wide 99;glue 9 n=9", 20, 9, 0);
            due("1 mat", x.would(0, 1, 10, 4), 1);
            due("99 mats", x.would(0, 99, 10, 4), 99);
            due("force 0", x.would(0, 10, 0, 4), 10);
            due("force 20", x.would(0, 10, 20, 4), 10);
            due("draw 0", x.would(0, 10, 10, 0), 10);
            due("draw 9", x.would(0, 10, 10, 9), 10);
        });
        holds(10, "How many a TRY would CATCH.", () -> {
            MatFlip x = one(20, 9, 5);
            due("it would", x.would(0, 5, 10, 4), 5);
            due("try", x.told(0), 0);
            due("score", x.of(0, 5), 0);
            asks("would", y -> y.would(1, 13, 11, 4));
            asks("would none", y -> y.would(0, 99, 0, 0));
        });
        holds(10, "NONE;", () -> {
            for (int player : NOBODY) {
                stays("would " + player, x -> x.would(player, 1, 0, 0), NONE);
                stays("would " + player + ", all else bad", x -> x.would(player, 0, 21, 10), NONE);
            }
        });
        holds(10, "BAD.", () -> {
            for (int n : NO_MATS) stays(n + " mats", x -> x.would(0, n, 0, 0), BAD);
            for (int force : NO_FORCE) stays("force " + force, x -> x.would(0, 1, force, 0), BAD);
            for (int draw : NO_DRAW) stays("draw " + draw, x -> x.would(0, 1, 0, draw), BAD);
        });
    }

    private static void done() {
        holds(11, "A TRY done: if all are caught, and n is above SCORE, SCORE is n;", () -> {
            scored(10, 11, 11, 11);
            scored(10, 10, 10, 10);
            scored(10, 9, 9, 10);
            scored(0, 1, 1, 1);
            scored(0, 99, 99, 99);
            scored(98, 99, 99, 99);
            scored(99, 99, 99, 99);
            scored(99, 1, 1, 99);
            MatFlip x = one(20, 9, 0);
            due("half of 14", x.go(0, 14, 10, 4), 7);
            due("the half is no score", x.of(0, 5), 0);
            due("none of 26", x.go(0, 26, 10, 4), 0);
            due("none is no score", x.of(0, 5), 0);
            due("half of 1 is none", x.go(0, 1, 8, 4), 0);
            due("no score", x.of(0, 5), 0);
        });
        holds(11, "if SCORE ahead of it and n are 5 apart at most, and all are caught, SKILL is 1 more", () -> {
            learnt(0, 1, 8);
            learnt(0, 5, 8);
            learnt(0, 6, 7);
            learnt(20, 15, 8);
            learnt(20, 14, 7);
            learnt(20, 20, 8);
            learnt(20, 25, 8);
            learnt(20, 26, 7);
            learnt(99, 94, 8);
            learnt(99, 93, 7);
            learnt(99, 99, 8);
            MatFlip x = one(20, 9, 0);
            x.set(0, 0, 12);
            x.set(0, 2, 14);
            due("half of 14", x.go(0, 14, 10, 4), 7);
            due("by the half nobody learns", x.of(0, 2), 12);
            due("none of 14", x.go(0, 14, 0, 4), 0);
            due("by none nobody learns", x.of(0, 2), 12);
        });
        holds(11, "(20 at most);", () -> {
            MatFlip x = one(18, 9, 0);
            int[] due = {19, 20, 20, 20};
            for (int t = 0; t < 4; t++) {
                due("caught", x.go(0, 5, 10, 4), 5);
                due("skill behind try " + t, x.of(0, 2), due[t]);
            }
        });
        holds(11, "PURSE is PAY less for each mat that is not caught", () -> {
            paid("pay 99", 9999, 99, 0, 9999 - 99 * 99);
            paid("pay 99", 9801, 99, 0, 0);
            paid("pay 0", 50, 99, 0, 50);
            paid("wide 6", 50, 26, 0, 24);
            paid("pay 3", 100, 15, 10, 100 - 3 * 8);
            paid("pay 3", 100, 14, 10, 100 - 3 * 7);
            paid("pay 3", 100, 1, 8, 97);
            paid("pay 3", 100, 5, 10, 100);
        });
        holds(11, "(0 at least);", () -> {
            paid("pay 99", 9800, 99, 0, 0);
            paid("pay 99", 0, 99, 0, 0);
            paid("pay 1", 1, 2, 0, 0);
            paid("pay 1", 2, 2, 0, 0);
            paid("pay 1", 3, 2, 0, 1);
        });
        holds(11, "TRY is 1 more.", () -> {
            MatFlip x = one(20, 9, 0);
            x.go(0, 5, 10, 4);
            due("all", x.told(0), 1);
            x.go(0, 14, 10, 4);
            due("the half", x.told(0), 2);
            x.go(0, 99, 0, 4);
            due("none", x.told(0), 3);
        });
    }

    /** SKILL is 20, nothing slips, the FORCE catches all. */
    private static void scored(int score, int n, int caught, int then) {
        MatFlip x = one("wide 99;glue 9 n=9", 20, 9, 0);
        x.set(0, 2, score);
        due("score " + score + ", " + n + " mats", x.go(0, n, 10, 4), caught);
        due("score then", x.of(0, 5), then);
    }

    private static void learnt(int score, int n, int skill) {
        MatFlip x = one("wide 99;glue 9 n=9", 7, 9, 0);
        x.set(0, 2, score);
        due("score " + score + ", " + n + " mats", x.go(0, n, 10, 4), n);
        due("skill then", x.of(0, 2), skill);
    }

    private static void paid(String inn, int purse, int n, int force, int then) {
        MatFlip x = one(inn, 20, 9, purse);
        x.player(0, 0, 20, 9, 77);
        x.go(0, n, force, 4);
        due(inn + ", purse " + purse + ", " + n + " mats, force " + force, x.of(0, 6), then);
        due("of the other it stays", x.of(1, 6), 77);
    }

    private static void go() {
        holds(11, "A TRY is done: how many it CATCHES.", () -> {
            MatFlip x = one(20, 9, 5);
            due("all", x.go(0, 5, 10, 4), 5);
            due("the half", x.go(0, 15, 10, 4), 7);
            due("none", x.go(0, 99, 0, 4), 0);
            MatFlip y = one("slip 99 y=1", 20, 9, 5);
            due("as things are ahead of it: y 0", y.go(0, 5, 10, 4), 5);
            due("y 1", y.go(0, 5, 10, 4), 2);
            due("y 2", y.go(0, 5, 10, 4), 5);
            MatFlip z = one("pay 4", 20, 9, 500);
            z.go(0, 10, 0, 4);
            due("pay of the inn then", z.of(0, 6), 460);
            Checks.inn(z, "pay 5");
            z.go(0, 10, 0, 4);
            due("pay of the newest one", z.of(0, 6), 410);
        });
        holds(11, "NONE;", () -> {
            for (int player : NOBODY) {
                stays("go " + player, x -> x.go(player, 1, 0, 0), NONE);
                stays("go " + player + ", all else bad", x -> x.go(player, 0, 21, 10), NONE);
            }
        });
        holds(11, "BAD;", () -> {
            for (int n : NO_MATS) stays(n + " mats", x -> x.go(0, n, 0, 0), BAD);
            for (int force : NO_FORCE) stays("force " + force, x -> x.go(0, 1, force, 0), BAD);
            for (int draw : NO_DRAW) stays("draw " + draw, x -> x.go(0, 1, 0, draw), BAD);
        });
        // An object is not promised to live for 9999 TRIES, but the refusal is.
        holds(11, "STATE: TRY is 9999.", () -> {
            MatFlip x = one(20, 9, 0);
            for (int t = 0; t < 9998; t++) x.go(0, 1, 0, 0);
            due("the last one", x.go(0, 5, 10, 4), 5);
            due("try", x.told(0), 9999);
            due("one more", x.go(0, 6, 10, 4), STATE);
            due("it is none", x.of(0, 5), 5);
            staysIn(Whole::late, "go", y -> y.go(0, 1, 0, 0), STATE);
            staysIn(Whole::late, "none ahead of state", y -> y.go(5, 1, 0, 0), NONE);
            staysIn(Whole::late, "bad ahead of state", y -> y.go(0, 1, 0, 10), BAD);
        });
    }
}
