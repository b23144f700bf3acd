/** Promises 12 to 18: ODDS, MEAN, BEST, MOST, LEARNS, PLAN. */
final class EdgesOfOdds extends Edges {
    private EdgesOfOdds() {
    }

    static void all() {
        asked();
        odds();
        mean();
        best();
        most();
        learns();
        plan();
        planned();
        first();
    }

    private static void asked() {
        holds(12, "All that follows is asked, as things are now, each DRAW being as likely as any other, and changes nothing.", () -> {
            for (int p = 0; p < 5; p++) {
                int player = p, other = (p + 1) % 5;
                asks("odds", x -> x.odds(player, 20, 11));
                asks("mean", x -> x.mean(player, 20, 11, 0));
                asks("best", x -> x.best(player, 20, 0));
                asks("most", x -> x.most(player));
                asks("learns", x -> x.learns(player));
                asks("plan", x -> x.plan(player, 3, 0));
                asks("first", x -> x.first(player, 3));
                asks("more", x -> x.more(player, other, 6, 1));
                asks("record", x -> Math.max(0, x.record(player, 20)));
                asks("raise", x -> x.raise(player, other, 9, 8, 0, 1));
                asks("wager", x -> x.wager(player, other, 50));
                asks("glass", x -> x.glass(player, 0));
                asks("stuck", x -> x.stuck(player, 60));
                asks("floor", x -> x.floor(player, 20, 11, 1));
                asks("order", x -> x.order(player));
                asks("title", x -> x.title(player));
                asks("skills", x -> x.skills(player));
            }
            asks("title -1", x -> x.title(-1));
            asks("can", x -> x.can(0));
            asks("looked", x -> x.looked());
            MatFlip x = one("slip 99 y=1", 20, 2, 0);
            due("by try 0", x.best(0, 20, 1), 10);
            x.go(0, 1, 0, 0);
            due("by try 1", x.best(0, 20, 1), 0);
            x.go(0, 1, 0, 0);
            due("by try 2", x.best(0, 20, 1), 10);
        });
    }

    private static void odds() {
        holds(12, "ODDS of a player, n, a FORCE: of ten DRAWS by how many all are caught;", () -> {
            // WIDE 6, UNSURE 3: OFF 0, 3, 6 catch; with TURN 50 these are DRAWS 2 to 6.
            MatFlip x = one(0, 9, 0);
            due("turn 50", x.odds(0, 10, 11), 5);
            due("turn 62: draws 0 to 2", x.odds(0, 6, 13), 3);
            due("turn 68: draw 0", x.odds(0, 4, 14), 1);
            due("turn 69: none", x.odds(0, 2, 14), 0);
            due("turn 35: draws 7 to 9", x.odds(0, 20, 9), 3);
            due("turn 29: draw 9", x.odds(0, 32, 9), 1);
            due("turn 28: none", x.odds(0, 34, 9), 0);
            due("the half is not all", x.odds(0, 1, 7), 3);
            MatFlip y = one(20, 9, 0);
            due("sure, off 6", y.odds(0, 12, 10), 10);
            due("sure, off 7", y.odds(0, 14, 10), 0);
            due("91 open", y.odds(0, 91, 19), 0);
            due("90 open", y.odds(0, 90, 19), 10);
        });
        holds(12, "ODDS of ten.", () -> {
            MatFlip x = one("wide 99", 0, 9, 0);
            due("ten of ten", x.odds(0, 10, 11), 10);
            due("none of ten", x.odds(0, 91, 11), 0);
        });
        holds(12, "NONE;", () -> {
            for (int player : NOBODY) {
                stays("odds of " + player, x -> x.odds(player, 1, 0), NONE);
                stays("odds of " + player + ", all else bad", x -> x.odds(player, 0, 21), NONE);
            }
        });
        holds(12, "BAD.", () -> {
            for (int n : NO_MATS) stays(n + " mats", x -> x.odds(0, n, 0), BAD);
            for (int force : NO_FORCE) stays("force " + force, x -> x.odds(0, 1, force), BAD);
        });
    }

    private static void mean() {
        holds(13, "MEAN likewise: how many mats are caught in the mean (a fraction in lowest terms).", () -> {
            // UNSURE 3, TURN 50: DRAWS 2 to 6 catch all, 0, 1, 7 and 8 (OFF 12) the half, 9 (OFF 15) none.
            mean(one(0, 9, 0), 10, 11, 7, 1);
            mean(one(0, 9, 0), 11, 11, 15, 2);
            mean(one(0, 9, 0), 1, 10, 1, 2);
            mean(one(0, 9, 0), 3, 10, 8, 5);
            mean(one(20, 9, 0), 99, 0, 0, 1);
            mean(one(20, 9, 0), 12, 10, 12, 1);
            mean(one(20, 9, 0), 15, 10, 7, 1);
            mean(one("wide 99;glue 9 n=9", 0, 9, 0), 99, 10, 99, 1);
            mean(one(0, 1, 0), 11, 11, 9, 2);
        });
        holds(13, "MEAN.", () -> {
            MatFlip x = one(20, 9, 0);
            due("above", x.mean(0, 10, 11, 0), 10);
            due("below", x.mean(0, 10, 11, 1), 1);
        });
        holds(13, "NO: player, n, force, part.", () -> {
            for (int player : NOBODY) stays("mean of " + player, x -> x.mean(player, 1, 0, 0), NO);
            for (int n : NO_MATS) stays(n + " mats", x -> x.mean(0, n, 0, 1), NO);
            for (int force : NO_FORCE) stays("force " + force, x -> x.mean(0, 1, force, 0), NO);
            for (int part : NO_PART) stays("part " + part, x -> x.mean(0, 1, 0, part), NO);
        });
    }

    private static void mean(MatFlip x, int n, int force, long above, long below) {
        due(n + " mats, force " + force, x.mean(0, n, force, 0), above);
        due(n + " mats, force " + force + ", below", x.mean(0, n, force, 1), below);
    }

    private static void best() {
        holds(14, "BEST of a player and n: the FORCE by which ODDS are most", () -> {
            MatFlip x = one(0, 9, 0);
            due("10 mats: turn 50", x.best(0, 10, 0), 11);
            due("20 mats", x.best(0, 20, 0), 12);
            due("1 mat: turn 50", x.best(0, 1, 0), 10);
            due("90 mats", x.best(0, 90, 0), 19);
            MatFlip y = with("wide 0");
            y.player(3, 9, 20, 9, 0);
            due("60 mats of a slack one: turn is never 50", y.best(0, 60, 1), 0);
            due("82 mats: turn 50 by force 20", y.best(0, 82, 0), 20);
            due("82 mats: ten of ten", y.best(0, 82, 1), 10);
            MatFlip z = with("wide 0");
            z.player(6, 0, 20, 9, 0);
            z.row(0, 0, 5);
            due("8 mats of a told one: turn is never 50", z.best(0, 8, 1), 0);
            due("2 mats of a told one: turn 50 by force 10", z.best(0, 2, 0), 10);
        });
        holds(14, "(of several the least);", () -> {
            MatFlip x = one(20, 9, 0);
            due("forces 9, 10, 11 with off 5, 0, 5", x.best(0, 1, 0), 9);
            due("forces 10, 11, 12 with off 5, 0, 5", x.best(0, 10, 0), 10);
            due("forces 10, 11, 12 with off 6, 1, 4", x.best(0, 12, 0), 10);
            MatFlip w = one("wide 99", 20, 9, 0);
            due("any force", w.best(0, 50, 0), 0);
            due("none: the least of all", w.best(0, 91, 0), 0);
        });
        holds(14, "these ODDS.", () -> {
            due("5 of ten", one(0, 9, 0).best(0, 10, 1), 5);
            due("ten of ten", one(20, 9, 0).best(0, 10, 1), 10);
            due("none of ten", one(20, 9, 0).best(0, 91, 1), 0);
            due("ten of ten by 99", one("glue 9 n=9", 20, 9, 0).best(0, 99, 1), 10);
        });
        holds(14, "BEST: what 0 FORCE, 1 ODDS.", () -> {
            MatFlip x = one(8, 9, 0);
            due("force", x.best(0, 20, 0), 12);
            due("odds by it", x.best(0, 20, 1), x.odds(0, 20, 12));
        });
        holds(14, "NONE;", () -> {
            for (int player : NOBODY) stays("best of " + player, x -> x.best(player, 0, 0), NONE);
            for (int what : out(0, 1)) {
                stays("best what " + what, x -> x.best(0, 1, what), NONE);
                stays("best what " + what + ", n is bad", x -> x.best(0, 100, what), NONE);
            }
        });
        holds(14, "BAD.", () -> {
            for (int n : NO_MATS) {
                stays("best force of " + n, x -> x.best(0, n, 0), BAD);
                stays("best odds of " + n, x -> x.best(0, n, 1), BAD);
            }
        });
    }

    private static void most() {
        holds(15, "MOST of a player: the greatest n by which ODDS of BEST are 5 or more", () -> {
            for (int hand = 1; hand < 10; hand++) due("hand " + hand, one(0, hand, 0).most(0), 10 * hand);
            due("5 of ten do", one(0, 9, 0).best(0, 90, 1), 5);
            MatFlip x = one(0, 9, 0);
            x.set(0, 1, 1);
            due("4 of ten", x.best(0, 4, 1), 4);
            due("4 of ten don't", x.most(0), 0);
            due("99", one("glue 9 n=9", 20, 9, 0).most(0), 99);
            due("99, 5 of ten by force 18", one("glue 9 n=9", 0, 9, 0).most(0), 99);
            due("1", one("slip 99 n>0;slip 8 n=0;wide 0", 20, 1, 0).most(0), 1);
            due("above a gap", one("slip 99 n>2&n<8", 20, 9, 0).most(0), 90);
            due("below a gap", one("slip 99 n>2", 20, 9, 0).most(0), 29);
        });
        holds(15, "(0: none).", () -> {
            due("all slip", one("slip 99 n<10", 20, 1, 0).most(0), 0);
            due("too unsure", one("wide 0", 11, 9, 0).most(0), 0);
        });
        holds(15, "MOST.", () -> due("by the hand", one(20, 3, 0).most(0), 30));
        holds(15, "NONE.", () -> {
            for (int player : NOBODY) stays("most of " + player, x -> x.most(player), NONE);
        });
    }

    private static void learns() {
        holds(16, "LEARNS of a player: the n, 5 at most apart from SCORE", () -> {
            // Of the first INN 10 mats can be held alone, of the second 20 alone, of the third up to 19.
            learns("slip 90 n<1|n>1", 1, 5, 10);
            learns("slip 90 n<1|n>1", 1, 4, 9);
            learns("slip 90 n<1|n>1", 1, 15, 10);
            learns("slip 90 n<1|n>1", 1, 16, 21);
            learns("slip 90 n<2|n>2", 2, 15, 20);
            learns("slip 90 n<2|n>2", 2, 14, 19);
            learns("slip 90 n<2|n>2", 2, 25, 20);
            learns("slip 90 n<2|n>2", 2, 26, 31);
            learns("slip 90 n>1", 9, 14, 19);
            learns("slip 90 n>1", 9, 24, 19);
            learns("slip 90 n>1", 9, 25, 30);
        });
        holds(16, "(1 .. 99),", () -> {
            learns("slip 90 n>9", 9, 0, 5);
            learns("slip 90 n>9", 9, 1, 6);
            learns("slip 10 n=0", 1, 0, 5);
            learns("slip 10 n=0", 1, 5, 10);
            learns("glue 9 n=9", 9, 99, 99);
            learns("glue 9 n=9", 9, 95, 99);
            learns("glue 9 n=9", 9, 94, 99);
            learns("glue 9 n=9", 9, 93, 98);
            learns("slip 8 n=0;slip 80 n>0;wide 0", 1, 6, 1);
            learns("slip 8 n=0;slip 80 n>0;wide 0", 1, 0, 1);
            learns("slip 8 n=0;slip 80 n>0;wide 0", 1, 7, 12);
            learns("slip 99 n=9", 9, 99, 99);
        });
        holds(16, "by which ODDS of BEST are most;", () -> {
            MatFlip x = one("slip 90 n=2;wide 5", 0, 9, 0);
            x.set(0, 2, 25);
            due("30 mats", x.best(0, 30, 1), 4);
            due("29 mats", x.best(0, 29, 1), 0);
            due("30 of 20 .. 30", x.learns(0), 30);
            x.set(0, 2, 24);
            due("19 of 19 .. 29", x.learns(0), 19);
            MatFlip y = one(8, 9, 0);
            y.set(0, 2, 2);
            due("ten of ten by 5 mats", y.best(0, 5, 1), 10);
            due("9 of ten by 6 mats", y.best(0, 6, 1), 9);
            due("9 of ten by 7 mats", y.best(0, 7, 1), 9);
            due("5 of 1 .. 7", y.learns(0), 5);
        });
        holds(16, "of several the greatest.", () -> {
            learns("slip 90 n=9", 9, 50, 55);
            learns("slip 99 n<10", 9, 50, 55);
            learns("slip 99 n<10", 9, 0, 5);
            learns("slip 99 n<10", 9, 99, 99);
        });
        holds(16, "LEARNS.", () -> due("from 0", one(20, 9, 0).learns(0), 5));
        holds(16, "NONE.", () -> {
            for (int player : NOBODY) stays("learns " + player, x -> x.learns(player), NONE);
        });
    }

    private static void learns(String inn, int hand, int score, int want) {
        MatFlip x = one(inn, 20, hand, 0);
        x.set(0, 2, score);
        due(inn + ", hand " + hand + ", score " + score, x.learns(0), want);
    }

    private static void plan() {
        holds(17, "PLAN of a player for t TRIES (1 .. 3):", () -> {
            // By 5 of ten DRAWS 10 mats are caught, more never.
            plan(one(0, 1, 0), 1, 5, 1);
            plan(one(0, 1, 0), 2, 15, 2);
            plan(one(0, 1, 0), 3, 35, 4);
        });
        holds(17, "it may try 5, 10, 15 .. 60 mats each time,", () -> {
            plan(one("glue 99 p=0", 20, 9, 0), 1, 60, 1);
            plan(one("slip 99 n=6", 20, 9, 0), 1, 55, 1);
            plan(one("slip 99 n<5|n>5", 20, 9, 0), 1, 55, 1);
            plan(one("slip 99 n>0", 20, 9, 0), 1, 5, 1);
            plan(one("slip 99 n<10", 20, 9, 0), 3, 0, 1);
            plan(one("slip 99 n<6", 20, 9, 0), 1, 60, 1);
        });
        holds(17, "knowing what came,", () -> {
            // Whoever caught 5 mats (1 of 2) goes on with 60, which glue lets SKILL 1 catch; else with 10.
            plan(one("glue 99 s>0", 0, 1, 0), 2, 75, 4);
            due("what came first", one("glue 99 s>0", 0, 1, 0).first(0, 2), 5);
        });
        holds(17, "by BEST as SKILL is then", () -> {
            // By SKILL 11 UNSURE is 1, and 1 of ten catches 5 mats or 10; by SKILL 12 all catch 10 mats.
            MatFlip x = one("wide 0", 11, 1, 0);
            plan(x, 1, 1, 1);
            plan(x, 2, 19, 10);
            due("learning first", x.first(0, 2), 5);
            MatFlip y = one("slip 99 s=20", 19, 1, 0);
            y.set(0, 2, 5);
            plan(y, 1, 10, 1);
            plan(y, 3, 10, 1);
        });
        holds(17, "(TRY as now):", () -> {
            plan(one("slip 99 y>0", 20, 6, 0), 3, 60, 1);
            plan(one("slip 99 y=0", 20, 6, 0), 3, 0, 1);
            MatFlip x = one("slip 99 y=1", 0, 1, 0);
            plan(x, 2, 15, 2);
            x.go(0, 50, 0, 0);
            plan(x, 3, 0, 1);
            MatFlip y = new MatFlip();
            y.player(6, 0, 20, 1, 0);
            Checks.inn(y, "wide 0");
            y.row(0, 0, 9);
            y.row(0, 1, 0);
            plan(y, 3, 10, 1);
        });
        holds(17, "the mean of SCORE in the end at best: a fraction in lowest terms;", () -> {
            MatFlip x = one(0, 1, 0);
            x.set(0, 2, 4);
            plan(x, 1, 7, 1);
            x.set(0, 2, 9);
            plan(x, 1, 19, 2);
            x.set(0, 2, 10);
            plan(x, 3, 10, 1);
            x.set(0, 2, 99);
            plan(x, 3, 99, 1);
            x.set(0, 2, 60);
            plan(x, 1, 60, 1);
        });
    }

    private static void planned() {
        holds(17, "SCORE, SKILL go as in a TRY done.", () -> {
            // SKILL stays 20 at most: 21 is never there, so that nothing slips.
            MatFlip x = one("slip 99 s>20", 20, 1, 0);
            x.set(0, 2, 5);
            plan(x, 3, 10, 1);
            // 5 apart teaches, 6 apart doesn't: by SCORE 5 ten mats make SKILL 1, by SCORE 4 five do.
            MatFlip y = one("glue 99 s>0|n<1", 0, 1, 0);
            y.set(0, 2, 5);
            due("10 mats first", y.first(0, 2), 10);
            plan(y, 2, 85, 4);
            y.set(0, 2, 4);
            due("5 mats first", y.first(0, 2), 5);
            plan(y, 2, 79, 4);
        });
        holds(17, "PLAN: the mean.", () -> {
            MatFlip x = one(0, 1, 0);
            due("above", x.plan(0, 2, 0), 15);
            due("below", x.plan(0, 2, 1), 2);
        });
        holds(17, "NO: player, tries, part.", () -> {
            for (int player : NOBODY) stays("plan of " + player, x -> x.plan(player, 1, 0), NO);
            for (int tries : out(1, 3)) stays("plan for " + tries, x -> x.plan(0, tries, 1), NO);
            for (int part : NO_PART) stays("plan part " + part, x -> x.plan(0, 1, part), NO);
        });
    }

    private static void plan(MatFlip x, int tries, long above, long below) {
        due("plan for " + tries, x.plan(0, tries, 0), above);
        due("plan for " + tries + ", below", x.plan(0, tries, 1), below);
    }

    private static void first() {
        holds(18, "what it tries first (of several the least).", () -> {
            MatFlip x = one("glue 99 p=0", 20, 1, 0);
            due("60 for 1", x.first(0, 1), 60);
            due("any of them ahead of 60", x.first(0, 2), 5);
            due("any of them ahead of any and 60", x.first(0, 3), 5);
            x.set(0, 2, 59);
            due("60 is above 59", x.first(0, 1), 60);
            x.set(0, 2, 60);
            due("nothing is above 60", x.first(0, 1), 5);
            MatFlip y = one("slip 99 n<10", 20, 1, 0);
            due("nothing can be caught", y.first(0, 3), 5);
            MatFlip u = one("wide 0", 20, 3, 0);
            due("5 are never caught, but by that nothing is lost", u.first(0, 2), 5);
            plan(u, 2, 30, 1);
            MatFlip w = one("glue 86 s=1", 0, 2, 0);
            w.set(0, 2, 45);
            due("what 40 to 50 mats would teach can't be learnt", w.first(0, 2), 5);
            plan(w, 2, 45, 1);
            MatFlip z = one(0, 1, 0);
            due("10 for 1", z.first(0, 1), 10);
            z.set(0, 2, 10);
            due("no use", z.first(0, 1), 5);
        });
        holds(18, "PLAN: what it tries first.", () -> due("20 by hand 2", one(0, 2, 0).first(0, 1), 20));
        holds(18, "NONE;", () -> {
            for (int player : NOBODY) {
                stays("first of " + player, x -> x.first(player, 1), NONE);
                stays("first of " + player + ", tries bad", x -> x.first(player, 0), NONE);
            }
        });
        holds(18, "BAD.", () -> {
            for (int tries : out(1, 3)) stays("first for " + tries, x -> x.first(0, tries), BAD);
        });
    }
}
