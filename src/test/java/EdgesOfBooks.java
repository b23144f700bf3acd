/** Promises 28 to 32: SEEN, CAN, SKILLS, BOOK, LOOKED at. */
final class EdgesOfBooks extends Edges {
    private static final int ALL_SKILLS = (1 << 21) - 1;

    private EdgesOfBooks() {
    }

    static void all() {
        see();
        can();
        skills();
        book();
        looked();
    }

    private static void see() {
        holds(28, "SEEN told by hand: a player, n, a FORCE, and how many were caught;", () -> {
            MatFlip x = one(20, 9, 0);
            x.player(0, 0, 0, 9, 0);
            due("the least", x.see(0, 1, 0, 0), 1);
            due("the greatest", x.see(1, 99, 20, 99), 2);
            due("more than there are", x.see(1, 1, 10, 99), 3);
            due("the least can be", x.can(0), 0x3ff);
            due("more than there are can't", x.can(2), 0);
            due("it is no try", x.told(0), 0);
        });
        holds(28, "8 at most.", () -> {
            MatFlip x = one(20, 9, 0);
            for (int i = 1; i <= 8; i++) due("seen", x.see(0, i, 10, i), i);
            due("a ninth", x.see(0, 9, 10, 9), FULL);
            due("count", x.count(2), 8);
            due("the eighth is there", x.can(7), 0x3ff);
            due("a ninth isn't", x.can(8), NONE);
        });
        holds(28, "What was SEEN comes: how many there are", () -> {
            MatFlip x = one(20, 9, 0);
            due("one", x.see(0, 5, 10, 5), 1);
            due("the same again", x.see(0, 5, 10, 5), 2);
        });
        holds(28, "(player -1: none then, 0, whatever the others are).", () -> {
            MatFlip x = one(20, 9, 0);
            for (int i = 0; i < 8; i++) x.see(0, 5, 10, 5);
            due("none", x.see(-1, 5, 10, 5), 0);
            due("count", x.count(2), 0);
            due("can", x.can(0), NONE);
            due("none of none", x.see(-1, 0, 0, 0), 0);
            due("not full any more", x.see(0, 5, 10, 5), 1);
            for (int other : new int[] {-1, 0, 100, MIN, MAX}) {
                x.see(0, 5, 10, 5);
                due("n " + other, x.see(-1, other, 10, 5), 0);
                x.see(0, 5, 10, 5);
                due("force " + other, x.see(-1, 5, other, 5), 0);
                x.see(0, 5, 10, 5);
                due("caught " + other, x.see(-1, 5, 10, other), 0);
                due("count", x.count(2), 0);
            }
            due("by nobody at all", new MatFlip().see(-1, 100, 21, 100), 0);
            MatFlip y = Whole.full();
            due("by full ones", y.see(-1, MIN, MIN, MIN), 0);
            due("the rows stay", y.count(3), 8);
        });
        holds(28, "NONE;", () -> {
            for (int player : new int[] {-2, 5, 6, MIN, MAX}) {
                stays("see of " + player, x -> x.see(player, 1, 0, 0), NONE);
                stays("see of " + player + ", all else bad", x -> x.see(player, 0, 21, 100), NONE);
            }
            staysIn(Whole::full, "none ahead of full", x -> x.see(6, 1, 0, 0), NONE);
            staysIn(MatFlip::new, "nobody is there", x -> x.see(0, 1, 0, 0), NONE);
        });
        holds(28, "BAD: n, force, caught (0 .. 99);", () -> {
            for (int n : NO_MATS) stays("see " + n, x -> x.see(0, n, 0, 0), BAD);
            for (int force : NO_FORCE) stays("see force " + force, x -> x.see(0, 1, force, 0), BAD);
            for (int caught : out(0, 99)) stays("see caught " + caught, x -> x.see(0, 1, 0, caught), BAD);
            staysIn(Whole::full, "bad ahead of full, n", x -> x.see(0, 0, 0, 0), BAD);
            staysIn(Whole::full, "bad ahead of full, force", x -> x.see(0, 1, 21, 0), BAD);
            staysIn(Whole::full, "bad ahead of full, caught", x -> x.see(0, 1, 0, 100), BAD);
        });
        holds(28, "FULL.", () -> staysIn(Whole::full, "a ninth", x -> x.see(0, 1, 0, 0), FULL));
    }

    private static void can() {
        holds(29, "CAN of one of SEEN: DRAWS (bits) by which that is so now.", () -> {
            // SKILL 0, TURN 50: DRAWS 2 to 6 catch all, 0, 1, 7, 8 the half, 9 none.
            MatFlip x = one(0, 9, 0);
            x.see(0, 10, 11, 10);
            x.see(0, 10, 11, 5);
            x.see(0, 10, 11, 0);
            x.see(0, 10, 11, 9);
            due("all", x.can(0), 0b0001111100);
            due("the half", x.can(1), 0b0110000011);
            due("none", x.can(2), 0b1000000000);
            due("by no draw", x.can(3), 0);
            x.set(0, 0, 20);
            due("now all by any", x.can(0), 0b1111111111);
            due("now not the half", x.can(1), 0);
            Checks.inn(x, "slip 99 y=1");
            due("by any, still", x.can(0), 0b1111111111);
            x.go(0, 1, 0, 0);
            due("109 open: the half now", x.can(0), 0);
            due("the half by any", x.can(1), 0b1111111111);
            x.see(0, 1, 10, 0);
            due("the half of 1 is none", x.can(4), 0b1111111111);
        });
        holds(29, "CAN of the i-th of SEEN, as bits.", () -> {
            MatFlip x = one(0, 9, 0);
            for (int i = 0; i < 8; i++) x.see(0, 10, 11, i == 0 ? 10 : i == 7 ? 5 : 1);
            due("the first", x.can(0), 0b0001111100);
            due("the eighth", x.can(7), 0b0110000011);
            due("one between", x.can(4), 0);
        });
        holds(29, "NONE.", () -> {
            for (int i : out(0, 2)) stays("can " + i, x -> x.can(i), NONE);
            for (int i : out(0, 7)) staysIn(Whole::full, "can " + i, x -> x.can(i), NONE);
            staysIn(MatFlip::new, "nothing is seen", x -> x.can(0), NONE);
        });
    }

    private static void skills() {
        holds(30, "SKILLS of a player: those (bits 0 .. 20), in place of SKILL,", () -> {
            MatFlip x = one("glue 5 s=0|s=20", 7, 9, 0);
            x.see(0, 95, 19, 95);
            due("0 and 20 alone", x.skills(0), 1 << 20 | 1);
            due("its own stays", x.of(0, 2), 7);
            MatFlip y = one("glue 5 s=0|s=20", 7, 9, 0);
            y.see(0, 95, 19, 0);
            due("none by OFF 14 asks for UNSURE 3", y.skills(0), 0b1111);
            MatFlip z = one(7, 9, 0);
            z.see(0, 10, 11, 0);
            due("SKILL 3, not 4", z.skills(0), 0b1111);
            z.set(0, 1, 9);
            due("9 GLASSES: UNSURE 3 and more by any", z.skills(0), ALL_SKILLS);
            z.set(0, 1, 0);
            z.see(-1, 0, 0, 0);
            z.see(0, 10, 11, 5);
            due("the half, OFF 7 to 12: UNSURE 2 and 3", z.skills(0), 0b11111111);
        });
        holds(30, "by which each of SEEN of that one can be by some DRAW.", () -> {
            MatFlip x = one(7, 9, 0);
            x.player(0, 0, 7, 9, 0);
            due("nothing is seen", x.skills(0), ALL_SKILLS);
            x.see(1, 10, 11, 9);
            due("of the other one alone", x.skills(0), ALL_SKILLS);
            due("the other one can't", x.skills(1), 0);
            x.see(0, 10, 11, 0);
            due("none", x.skills(0), 0b1111);
            x.see(0, 10, 11, 10);
            due("none, and all by another draw", x.skills(0), 0b1111);
            x.see(0, 10, 11, 9);
            due("one of them can't be", x.skills(0), 0);
            x.see(-1, 0, 0, 0);
            due("nothing is seen again", x.skills(1), ALL_SKILLS);
        });
        holds(30, "SKILLS, as bits.", () -> {
            MatFlip x = one(20, 9, 0);
            x.see(0, 10, 11, 10);
            due("all", x.skills(0), ALL_SKILLS);
        });
        holds(30, "NONE.", () -> {
            for (int player : NOBODY) stays("skills of " + player, x -> x.skills(player), NONE);
        });
    }

    private static void book() {
        holds(31, "BOOK told by hand: MOST of players;", () -> {
            MatFlip x = one(20, 9, 0);
            x.player(0, 0, 20, 1, 0);
            due("0", x.book(0, 0), 1);
            due("99", x.book(1, 99), 2);
        });
        holds(31, "8 at most.", () -> {
            MatFlip x = one(20, 9, 0);
            for (int i = 1; i <= 8; i++) due("row", x.book(0, i < 8 ? 90 : 89), i);
            due("a ninth", x.book(0, 90), FULL);
            due("count", x.count(3), 8);
            due("the eighth is there", x.looked(), 7);
        });
        holds(31, "A row comes to BOOK: how many there are", () -> {
            MatFlip x = one(20, 9, 0);
            due("one", x.book(0, 90), 1);
            due("the same again", x.book(0, 90), 2);
        });
        holds(31, "(player -1: none then, 0, whatever the other is).", () -> {
            MatFlip x = one(20, 9, 0);
            for (int i = 0; i < 8; i++) x.book(0, 1);
            due("none", x.book(-1, 5), 0);
            due("count", x.count(3), 0);
            due("nothing to look at", x.looked(), NOWHERE);
            due("none of none", x.book(-1, 0), 0);
            for (int most : new int[] {-1, 100, MIN, MAX}) {
                due("not full", x.book(0, 1), 1);
                due("most " + most, x.book(-1, most), 0);
                due("count", x.count(3), 0);
            }
            due("by nobody at all", new MatFlip().book(-1, 100), 0);
            MatFlip y = Whole.full();
            due("by full ones", y.book(-1, MIN), 0);
            due("what was seen stays", y.count(2), 8);
        });
        holds(31, "NONE;", () -> {
            for (int player : new int[] {-2, 5, 6, MIN, MAX}) {
                stays("book of " + player, x -> x.book(player, 1), NONE);
                stays("book of " + player + ", most is bad", x -> x.book(player, 100), NONE);
            }
            staysIn(Whole::full, "none ahead of full", x -> x.book(6, 1), NONE);
            staysIn(MatFlip::new, "nobody is there", x -> x.book(0, 1), NONE);
        });
        holds(31, "BAD: most (0 .. 99);", () -> {
            for (int most : out(0, 99)) {
                stays("book " + most, x -> x.book(0, most), BAD);
                staysIn(Whole::full, "bad ahead of full, " + most, x -> x.book(0, most), BAD);
            }
        });
        holds(31, "FULL.", () -> staysIn(Whole::full, "a ninth", x -> x.book(0, 1), FULL));
    }

    private static void looked() {
        holds(32, "LOOKED at: the first that is not so", () -> {
            MatFlip x = one(20, 9, 0);
            x.book(0, 89);
            x.book(0, 91);
            due("the first of two", x.looked(), 0);
            x.book(-1, 0);
            for (int i = 0; i < 7; i++) x.book(0, 90);
            x.book(0, 91);
            due("one more than it is", x.looked(), 7);
            x.set(0, 1, 9);
            due("as things are now", x.looked(), 0);
            x.book(-1, 0);
            x.book(0, 0);
            due("0 is so", x.looked(), NOWHERE);
        });
        holds(32, "(-5: none).", () -> {
            due("no rows", new MatFlip().looked(), NOWHERE);
            MatFlip x = one("glue 9 n=9", 20, 9, 0);
            x.player(0, 0, 20, 1, 0);
            x.book(0, 99);
            x.book(1, 10);
            due("all are so", x.looked(), NOWHERE);
        });
        holds(32, "LOOKED at; -5.", () -> {
            MatFlip x = one(20, 1, 0);
            x.book(0, 10);
            due("so", x.looked(), NOWHERE);
            x.book(0, 9);
            due("not so", x.looked(), 1);
        });
    }
}
