/** Promises 23 to 27: GLASS, STUCK, FLOOR, ORDER, TITLE. */
final class EdgesOfOrders extends Edges {
    private EdgesOfOrders() {
    }

    static void all() {
        glass();
        stuck();
        floor();
        order();
        title();
        titleOf();
    }

    private static void glass() {
        holds(23, "GLASS of a player: GLASSES 0 .. 9, in place of its own, by which MOST is greatest", () -> {
            glass("slip 99 g<9", 20, 9, 20);
            glass("slip 99 g>0", 20, 0, 20);
            glass("slip 99 !g=5", 20, 5, 20);
            glass("slip 1 p=0;glue 1 g=8", 20, 8, 20);
            // What a player can hold of UNSURE 0 till 2 GLASSES: more of them only take from it.
            MatFlip x = one(20, 2, 0);
            x.set(0, 1, 9);
            due("its own", x.most(0), 0);
            due("sober", x.glass(0, 0), 0);
            due("most", x.glass(0, 1), 20);
            due("its own stay", x.of(0, 4), 9);
            MatFlip y = with("slip 99 g=0");
            y.player(5, 0, 20, 2, 0);
            due("1 is 2 to a drunk one: UNSURE 0", y.glass(0, 0), 1);
            MatFlip z = with("slip 99 g<2");
            z.player(5, 0, 20, 2, 0);
            due("2 are 4 to a drunk one: UNSURE 2", z.best(0, 10, 1), 0);
            due("7 of ten by 2", z.glass(0, 0), 2);
            due("most", z.glass(0, 1), 20);
            MatFlip w = with("slip 99 g<3");
            w.player(5, 0, 20, 2, 0);
            due("3 are 6 to a drunk one: UNSURE 4, none by any", w.glass(0, 1), 0);
        });
        holds(23, "(of several the least);", () -> {
            glass("slip 99 g<3", 20, 3, 20);
            glass("slip 99 g<3|g=7", 20, 3, 20);
            glass("slip 0 p=0", 20, 0, 20);
            glass("slip 99 p=0", 20, 0, 0);
        });
        holds(23, "MOST by it.", () -> {
            glass("slip 50 g<3;glue 10 g=5", 20, 5, 30);
            glass("glue 99 g=9", 20, 9, 99);
        });
        holds(23, "GLASS: what 0 how many, 1 MOST.", () -> {
            MatFlip x = one(20, 1, 0);
            due("how many", x.glass(0, 0), 0);
            due("most", x.glass(0, 1), 10);
        });
        holds(23, "NONE.", () -> {
            for (int player : NOBODY) stays("glass of " + player, x -> x.glass(player, 0), NONE);
            for (int what : out(0, 1)) stays("glass what " + what, x -> x.glass(0, what), NONE);
            stays("both", x -> x.glass(5, 2), NONE);
        });
    }

    /** A calm one, whom GLASSES don't make UNSURE, with hand 2; it has 1 of them. */
    private static void glass(String inn, int skill, int glasses, int most) {
        MatFlip x = with(inn);
        x.player(4, 0, skill, 2, 0);
        x.set(0, 1, 1);
        due(inn, x.glass(0, 0), glasses);
        due(inn + ", most", x.glass(0, 1), most);
    }

    private static void stuck() {
        holds(24, "STUCK of a player and n: the least glue more (0 .. 99) by which OPENS would be 10 times HAND at most", () -> {
            due("1 by 9", one(20, 9, 0).stuck(0, 1), 0);
            due("90 by 9", one(20, 9, 0).stuck(0, 90), 0);
            due("91 by 9", one(20, 9, 0).stuck(0, 91), 1);
            due("10 by 1", one(20, 1, 0).stuck(0, 10), 0);
            due("11 by 1", one(20, 1, 0).stuck(0, 11), 1);
            due("99 by 1", one(20, 1, 0).stuck(0, 99), 89);
            due("109 open by 1", one("slip 10 p=0", 20, 1, 0).stuck(0, 99), 99);
            due("99 of glue: none open", one("glue 99 p=0", 20, 1, 0).stuck(0, 50), 0);
            due("glue that is there counts", one("glue 5 p=0", 20, 1, 0).stuck(0, 20), 5);
            due("it does by that", one("slip 99 p=0;glue 99 p=0", 20, 1, 0).stuck(0, 12), 2);
        });
        holds(24, "(-5: by none).", () -> {
            due("110 open by 1", one("slip 11 p=0", 20, 1, 0).stuck(0, 99), NOWHERE);
            due("190 open by 9", one("slip 91 p=0", 20, 9, 0).stuck(0, 99), NOWHERE);
            due("189 open by 9", one("slip 90 p=0", 20, 9, 0).stuck(0, 99), 99);
            due("far more", one("slip 99 p=0;".repeat(7) + "slip 99 p=0", 20, 9, 0).stuck(0, 99), NOWHERE);
        });
        holds(24, "STUCK; -5.", () -> {
            due("2", one(20, 2, 0).stuck(0, 22), 2);
            due("-5", one("slip 99 p=0", 20, 1, 0).stuck(0, 11), NOWHERE);
        });
        holds(24, "NONE;", () -> {
            for (int player : NOBODY) {
                stays("stuck of " + player, x -> x.stuck(player, 1), NONE);
                stays("stuck of " + player + ", n is bad", x -> x.stuck(player, 0), NONE);
            }
        });
        holds(24, "BAD.", () -> {
            for (int n : NO_MATS) stays("stuck of " + n, x -> x.stuck(0, n), BAD);
        });
    }

    private static void floor() {
        holds(25, "FLOOR of a player, n, a FORCE: what is paid in the mean for mats that are not caught", () -> {
            // SKILL 0, TURN 50: of 10 mats 70 of 100 are caught, of 11 mats 75 of 110, of 1 mat 5 of 10.
            floor(one(0, 9, 50), 10, 11, 3, 1);
            floor(one(0, 9, 50), 11, 11, 7, 2);
            floor(one(0, 9, 50), 1, 10, 1, 2);
            floor(one("pay 4", 0, 9, 50), 11, 11, 14, 1);
            floor(one("pay 3", 0, 9, 50), 11, 11, 21, 2);
            floor(one("pay 0", 0, 9, 50), 11, 11, 0, 1);
            floor(one("pay 99", 0, 9, 50), 99, 0, 9801, 1);
            floor(one("pay 99", 20, 9, 50), 10, 11, 0, 1);
            floor(one("pay 99", 20, 9, 50), 15, 10, 99 * 8, 1);
        });
        holds(25, "(PURSE not being looked at):", () -> {
            floor(one("pay 99", 0, 9, 0), 99, 0, 9801, 1);
            floor(one("pay 99", 0, 9, 1), 99, 0, 9801, 1);
            floor(one("pay 99", 0, 9, 9999), 99, 0, 9801, 1);
        });
        holds(25, "a fraction in lowest terms.", () -> {
            floor(one("pay 5", 0, 9, 0), 11, 11, 35, 2);
            floor(one("pay 10", 0, 9, 0), 11, 11, 35, 1);
            floor(one("pay 1", 0, 9, 0), 3, 10, 7, 5);
            floor(one("pay 5", 0, 9, 0), 3, 10, 7, 1);
        });
        holds(25, "FLOOR.", () -> floor(one(20, 9, 0), 9, 0, 9, 1));
        holds(25, "NO: player, n, force, part.", () -> {
            for (int player : NOBODY) stays("floor of " + player, x -> x.floor(player, 1, 0, 0), NO);
            for (int n : NO_MATS) stays("floor of " + n, x -> x.floor(0, n, 0, 0), NO);
            for (int force : NO_FORCE) stays("floor by " + force, x -> x.floor(0, 1, force, 0), NO);
            for (int part : NO_PART) stays("floor part " + part, x -> x.floor(0, 1, 0, part), NO);
        });
    }

    private static void floor(MatFlip x, int n, int force, long above, long below) {
        due(n + " mats, force " + force, x.floor(0, n, force, 0), above);
        due(n + " mats, force " + force + ", below", x.floor(0, n, force, 1), below);
    }

    private static MatFlip hands(int... hands) {
        MatFlip x = new MatFlip();
        for (int hand : hands) x.player(0, 0, 20, hand, 0);
        return x;
    }

    private static void order() {
        holds(26, "ORDER of all players by MOST (the greatest first,", () -> {
            order(hands(1, 2, 3, 4, 5, 6), 5, 4, 3, 2, 1, 0);
            order(hands(6, 5, 4, 3, 2, 1), 0, 1, 2, 3, 4, 5);
            order(hands(7), 0);
            MatFlip x = hands(1, 2);
            x.set(1, 1, 9);
            order(x, 0, 1);
        });
        holds(26, "of several the lesser number):", () -> {
            order(hands(3, 3, 3, 3, 3, 3), 0, 1, 2, 3, 4, 5);
            order(hands(1, 3, 1, 3, 2, 3), 1, 3, 5, 4, 0, 2);
            MatFlip x = one("slip 80 n<10", 20, 1, 0);
            x.player(0, 0, 20, 9, 0);
            order(x, 1, 0);
            Checks.inn(x, "wide 0;slip 99 n<10;slip 99 n<10");
            order(x, 0, 1);
        });
        holds(26, "who is at place k.", () -> {
            MatFlip x = hands(1, 2);
            due("place 0", x.order(0), 1);
            due("place 1", x.order(1), 0);
        });
        holds(26, "ORDER: who.", () -> due("alone", hands(1).order(0), 0));
        holds(26, "NONE: k.", () -> {
            for (int k : out(0, 4)) stays("place " + k, x -> x.order(k), NONE);
            for (int k : out(0, 5)) staysIn(Whole::full, "place " + k, x -> x.order(k), NONE);
            staysIn(MatFlip::new, "nobody is there", x -> x.order(0), NONE);
        });
    }

    private static void order(MatFlip x, int... who) {
        for (int k = 0; k < who.length; k++) due("place " + k, x.order(k), who[k]);
        due("place " + who.length, x.order(who.length), NONE);
    }

    private static void title() {
        holds(27, "TITLE: each two players RAISE from the greater of their MOSTS", () -> {
            points(hands(2, 3), 0, 2);
            points(hands(3, 2), 2, 0);
            points(hands(1, 2, 3, 4, 5, 6), 0, 2, 4, 6, 8, 10);
            points(hands(6, 5, 4, 3, 2, 1), 10, 8, 6, 4, 2, 0);
            // Player 1 holds up to 20 mats; player 0 up to 10, and 40 to 49, which stick for it alone.
            MatFlip x = one("glue 99 p=0&n=4", 20, 1, 0);
            x.player(0, 0, 20, 2, 0);
            points(x, 2, 0);
        });
        holds(27, "(1 at least),", () -> {
            MatFlip x = one("wide 0;slip 99 n>0", 11, 9, 0);
            x.player(0, 0, 11, 9, 0);
            due("mosts", x.most(0) + x.most(1), 0);
            // 1 and 3 mats by 1 of ten, 2 and 4 by 1 of ten, too: who tries second wins more likely.
            points(x, 0, 2);
            MatFlip y = one("slip 9 n<10", 20, 1, 0);
            y.player(0, 0, 20, 1, 0);
            due("1 mat alone", y.most(0) + y.most(1), 2);
            points(y, 2, 0);
            MatFlip z = one("slip 10 n<10", 20, 1, 0);
            z.player(0, 0, 20, 1, 0);
            due("not even that", z.most(0) + z.most(1), 0);
            points(z, 0, 2);
        });
        holds(27, "for 4 TRIES,", () -> {
            // From 99: 8 and 7 of ten; by 3 or 5 TRIES the second one would be ahead.
            MatFlip x = one("wide 7;glue 99 n>0", 4, 9, 0);
            x.player(2, 4, 4, 9, 0);
            due("8 of ten", x.best(0, 99, 1), 8);
            due("7 of ten", x.best(1, 99, 1), 7);
            points(x, 2, 0);
        });
        holds(27, "the lesser number first;", () -> {
            // Both hold 30 and no 31: who is first wins.
            points(hands(3, 3), 2, 0);
            points(hands(3, 3, 3), 4, 2, 0);
            points(hands(3, 3, 3, 3, 3, 3), 10, 8, 6, 4, 2, 0);
        });
    }

    private static void titleOf() {
        holds(27, "who wins more likely than the other one has 2 points,", () -> {
            points(hands(1, 9), 0, 2);
            points(hands(9, 1, 5), 4, 0, 2);
        });
        holds(27, "both have 1, if they are alike likely:", () -> {
            MatFlip x = one("glue 99 p<9", 20, 1, 0);
            x.player(0, 0, 20, 1, 0);
            points(x, 1, 1);
            x.player(0, 0, 20, 9, 0);
            points(x, 2, 2, 2);
            for (int i = 3; i < 6; i++) x.player(0, 0, 20, 1, 0);
            points(x, 5, 5, 5, 5, 5, 5);
            MatFlip y = one("wide 99;glue 99 p<2", 20, 1, 0);
            y.player(0, 0, 20, 1, 0);
            y.player(0, 0, 20, 1, 0);
            points(y, 3, 3, 0);
        });
        holds(27, "points of a player;", () -> {
            points(hands(4), 0);
            points(hands(2, 3), 0, 2);
        });
        holds(27, "who has most (of several the least; -5: nobody is there).", () -> {
            due("nobody", new MatFlip().title(-1), NOWHERE);
            due("alone", hands(4).title(-1), 0);
            due("the second", hands(2, 3).title(-1), 1);
            due("the last of six", hands(1, 2, 3, 4, 5, 6).title(-1), 5);
            MatFlip x = one("glue 99 p<9", 20, 1, 0);
            for (int i = 1; i < 6; i++) x.player(0, 0, 20, 1, 0);
            due("of six alike", x.title(-1), 0);
            MatFlip y = one("wide 99;glue 99 p>0", 20, 1, 0);
            for (int i = 1; i < 6; i++) y.player(0, 0, 20, 1, 0);
            due("of five alike", y.title(-1), 1);
        });
        holds(27, "TITLE: points of a PLAYER; player -1: who has most (-5).", () -> {
            MatFlip x = hands(2, 3);
            due("points", x.title(1), 2);
            due("most", x.title(-1), 1);
        });
        holds(27, "NONE.", () -> {
            for (int player : new int[] {-2, 5, 6, MIN, MAX}) stays("title of " + player, x -> x.title(player), NONE);
            staysIn(MatFlip::new, "nobody is there", x -> x.title(0), NONE);
            staysIn(Whole::full, "a seventh one", x -> x.title(6), NONE);
        });
    }

    private static void points(MatFlip x, int... points) {
        for (int p = 0; p < points.length; p++) due("points of " + p, x.title(p), points[p]);
        due("players", x.count(0), points.length);
    }
}
