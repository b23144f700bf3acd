/** Promises 1 to 3 and 8: a new object, THE TAPE, INNS, what is told of them. */
final class EdgesOfInns extends Edges {
    private static final String PAY_TEN_TIMES = "pay 0;pay 1;pay 2;pay 3;pay 4;pay 5;pay 6;pay 7;pay 8;pay 9";

    private EdgesOfInns() {
    }

    static void all() {
        newObject();
        feed();
        inn();
        clauses();
        parts();
        faults();
        tests();
        open();
        numbersOfInns();
        told();
    }

    private static void newObject() {
        holds(1, "Nobody", () -> {
            MatFlip x = new MatFlip();
            due("players", x.count(0), 0);
            due("player 0", x.of(0, 0), NONE);
            due("place 0", x.order(0), NONE);
            due("who has most", x.title(-1), NOWHERE);
            due("seen", x.count(2), 0);
            due("rows", x.count(3), 0);
            due("the first player's number", x.player(0, 0, 0, 1, 0), 0);
        });
        holds(1, "no INN", () -> {
            MatFlip x = new MatFlip();
            due("inns", x.count(1), 0);
            due("signs", x.count(4), 0);
            due("no image", x.undo(), STATE);
            due("the first inn's number", Checks.inn(x, "pay 1"), 0);
        });
        holds(1, "TRY: 0 at first.", () -> due("told", new MatFlip().told(0), 0));
        holds(1, "The constants: `NO = Long.MIN_VALUE`: There is no such number.", () -> {
            due("NO", MatFlip.NO, Long.MIN_VALUE);
            due("a mean of nobody", new MatFlip().mean(0, 1, 1, 0), MatFlip.NO);
        });
    }

    private static void feed() {
        holds(2, "A sign (0 .. 127)", () -> {
            MatFlip x = new MatFlip();
            due("0", x.feed(0), 1);
            due("127", x.feed(127), 2);
            due("10, a line's end", x.feed(10), 3);
            due("-1", x.feed(-1), BAD);
            due("128", x.feed(128), BAD);
        });
        holds(2, "comes behind THE TAPE's", () -> {
            MatFlip x = new MatFlip();
            Checks.feed(x, "pay 1");
            x.feed('2');
            due("12, not 21", x.inn(), 0);
            due("pay", x.told(2), 12);
            x.feed('p');
            x.feed('a');
            x.feed('w');
            due("the third is wrong", x.inn(), -12);
        });
        holds(2, "how many it has.", () -> {
            MatFlip x = new MatFlip();
            for (int i = 1; i <= 100; i++) due("sign " + i, x.feed(i), i);
            due("count", x.count(4), 100);
            x.inn();
            due("the first one after an inn", x.feed('p'), 1);
        });
        holds(2, "BAD", () -> {
            for (int sign : out(0, 127)) stays("feed " + sign, x -> x.feed(sign), BAD);
            for (int sign : new int[] {'p' + 256, 'p' - 256, 'p' + (1 << 16)}) stays("feed " + sign, x -> x.feed(sign), BAD);
            staysIn(Whole::full, "bad ahead of full", x -> x.feed(128), BAD);
            staysIn(MatFlip::new, "bad for an empty tape", x -> x.feed(-1), BAD);
        });
        holds(2, "FULL.", () -> {
            staysIn(Whole::full, "sign 101", x -> x.feed('p'), FULL);
            staysIn(Whole::full, "sign 0 as the 101st", x -> x.feed(0), FULL);
            MatFlip x = new MatFlip();
            for (int i = 0; i < 99; i++) x.feed('p');
            due("sign 100", x.feed('p'), 100);
            due("sign 101", x.feed('p'), FULL);
            x.inn();
            due("empty again", x.feed('p'), 1);
        });
    }

    private static void inn() {
        holds(3, "THE TAPE, which is empty then", () -> {
            MatFlip x = with("pay 3");
            due("signs", x.count(4), 0);
            due("a next inn begins anew", Checks.inn(x, "pay 4"), 1);
        });
        holds(3, "(by a FAULT, too)", () -> {
            MatFlip x = new MatFlip();
            due("a fault in the midst", Checks.inn(x, "pay ?pay 3"), -14);
            due("signs", x.count(4), 0);
            due("nothing of it is left", Checks.inn(x, "pay 4"), 0);
            due("pay", x.told(2), 4);
        });
        holds(3, "is an INN, and holds: its number;", () -> {
            MatFlip x = new MatFlip();
            for (int i = 0; i < 5; i++) {
                due("number", Checks.inn(x, "pay " + (20 + i)), i);
                due("holds at once", x.told(2), 20 + i);
                due("inns", x.count(1), i + 1);
            }
        });
        holds(3, "-10 less the FAULT", () -> {
            fault("?", 0);
            fault("p?", 1);
            fault("slip 1 p=0" + "|p=0".repeat(22) + "?", 98);
            fault("slip 1 p=0" + "|p=0".repeat(22) + "|?", 99);
            fault("slip 1 p=0" + "|p=0".repeat(22) + "|p", 100);
        });
        holds(3, "(the one that held holds).", () -> {
            MatFlip x = with("wide 9;pay 5");
            due("a fault", Checks.inn(x, "wide 1;pay 2;"), -23);
            due("wide", x.told(1), 9);
            due("pay", x.told(2), 5);
            due("inns", x.count(1), 1);
            MatFlip y = new MatFlip();
            due("a fault with none that held", Checks.inn(y, "wide 1;"), -17);
            due("still none", y.told(1), 6);
            due("inns", y.count(1), 0);
        });
        holds(3, "FULL (ahead of all; THE TAPE stays).", () -> {
            MatFlip x = new MatFlip();
            for (int i = 0; i < 5; i++) Checks.inn(x, "pay " + i);
            due("full by an empty tape", x.inn(), FULL);
            Checks.feed(x, "pay ?");
            due("full ahead of a fault", x.inn(), FULL);
            due("the tape stays", x.count(4), 5);
            due("it goes on", x.feed('7'), 6);
            due("pay", x.told(2), 4);
            staysIn(Whole::full, "inn", MatFlip::inn, FULL);
            MatFlip y = new MatFlip();
            y.image();
            for (int i = 0; i < 5; i++) Checks.inn(y, "pay " + i);
            Checks.feed(y, "pay 9");
            due("full", y.inn(), FULL);
            y.undo();
            due("not full any more, the tape as the image", y.inn(), -10);
        });
    }

    private static void clauses() {
        holds(3, "An INN is read from THE TAPE (bytes, 100 at most):", () -> {
            String hundred = "slip 1 p=10|p=11" + "|p=0".repeat(21);
            due("it has", hundred.length(), 100);
            fault(hundred, -1);
            MatFlip x = with(hundred);
            x.player(0, 0, 0, 1, 0);
            due("the last test counts", x.pile(0, 5, 0, 1), 6);
            String cut = "slip 1 p=10|p=1" + "|p=1".repeat(21) + "|";
            due("it has", cut.length(), 100);
            fault(cut, 100);
        });
        holds(3, "CLAUSES, 10 at most, with ; between:", () -> {
            fault("", 0);
            fault("pay 1", -1);
            fault("pay 1;pay 1", -1);
            fault("pay 1pay 1", 5);
            fault("pay 1;", 6);
            fault("pay 1;;pay 1", 6);
            fault(";pay 1", 0);
            fault(";", 0);
            fault("pay 1,pay 1", 5);
            fault(PAY_TEN_TIMES, -1);
            fault(PAY_TEN_TIMES + ";", 59);
            fault(PAY_TEN_TIMES + ";pay 1", 59);
            fault(PAY_TEN_TIMES + "0", -1);
            fault(PAY_TEN_TIMES + "00", 60);
            MatFlip x = with("slip 1 p=0;".repeat(8) + "wide 1;pay 2");
            x.player(0, 0, 0, 1, 0);
            due("eight slips, one as the other", x.pile(0, 5, 0, 1), 13);
            MatFlip y = with("slip 9 p=0;".repeat(9).substring(0, 98));
            y.player(0, 0, 0, 1, 0);
            due("nine slips", y.pile(0, 5, 0, 1), 86);
        });
        holds(3, "wide n;", () -> {
            fault("wide 0", -1);
            fault("wide 99", -1);
            fault("wid 9", 3);
            fault("Wide 9", 0);
            fault("wide n", 5);
            fault("wide -1", 5);
            fault("wide 9 p=0", 6);
        });
        holds(3, "pay n;", () -> {
            fault("pay 0", -1);
            fault("pay 99", -1);
            fault("pat 9", 2);
            fault("pay 9 p=0", 5);
        });
        holds(3, "slip n E;", () -> {
            fault("slip 0 p=0", -1);
            fault("slip 99 p=0", -1);
            fault("slip 9", 6);
            fault("slip 9;", 6);
            fault("slip p=0", 5);
        });
        holds(3, "glue n E", () -> {
            fault("glue 0 p=0", -1);
            fault("glue 99 p=0", -1);
            fault("glue 9", 6);
            fault("glee 9 p=0", 2);
            fault("glup 9 p=0", 3);
        });
    }

    private static void parts() {
        holds(3, "(one blank ahead of each part behind the word;", () -> {
            fault("wide9", 4);
            fault("wide  9", 5);
            fault(" wide 9", 0);
            fault("wide 9 ", 6);
            fault("wide\t9", 4);
            fault("slip 9p=0", 6);
            fault("slip 9  p=0", 7);
            fault("slip9 p=0", 4);
            fault("glue 9 p =0", 8);
            fault("glue 9 p= 0", 9);
            fault("glue 9 p=0 ", 10);
            fault("glue 9 p=0 |p=1", 10);
            fault("glue 9 ! p=0", 8);
            fault("pay 9; pay 9", 6);
            fault("pay 9 ;pay 9", 5);
        });
        holds(3, "n 1 or 2 digits, no 0 ahead of another)", () -> {
            for (int n = 0; n < 100; n++) {
                MatFlip x = with("pay " + n);
                due("pay " + n, x.told(2), n);
            }
            fault("pay ", 4);
            fault("pay 00", 5);
            fault("pay 01", 5);
            fault("pay 09;", 5);
            fault("pay 100", 6);
            fault("pay 999", 6);
            fault("pay 10;pay 0", -1);
            goesOn("wide 0", ";");
            goesOn("wide 1", ";0123456789");
            goesOn("wide 90", ";");
            goesOn("slip 0", " ");
            goesOn("slip 9", " 0123456789");
            goesOn("slip 10", " ");
        });
        holds(3, "E: T, or T|E.", () -> {
            fault("slip 1 p=0|k=0", -1);
            fault("slip 1 p=0|k=0|n=0", -1);
            fault("slip 1 p=0|", 11);
            fault("slip 1 |p=0", 7);
            fault("slip 1 p=0||p=0", 11);
            sets("slip 1 p=0|p=1", 1, 1, 0);
            sets("slip 1 p=0|p=1|p=2", 1, 1, 1);
            sets("slip 1 p=9|p=9|p=2", 0, 0, 1);
            sets("slip 1 p<0|p=1", 0, 1, 0);
        });
        holds(3, "T: F, or F&T.", () -> {
            fault("slip 1 p=0&k=0", -1);
            fault("slip 1 p=0&k=0&n=0", -1);
            fault("slip 1 p=0&", 11);
            fault("slip 1 &p=0", 7);
            fault("slip 1 p=0&|p=0", 11);
            sets("slip 1 p<2&p>0", 0, 1, 0);
            sets("slip 1 p=0&!p<0", 1, 0, 0);
            sets("slip 1 p<0&p=0", 0, 0, 0);
            sets("slip 1 p<2&p>0&p=0", 0, 0, 0);
            sets("slip 1 p=0|p=1&p=2", 1, 0, 0);
            sets("slip 1 p=0&p=1|p=2", 0, 0, 1);
            sets("slip 1 p>0&p<2|p=2&p=2", 0, 1, 1);
        });
        holds(3, "F: !F, (E), or a TEST:", () -> {
            fault("slip 1 !p=0", -1);
            fault("slip 1 (p=0)", -1);
            fault("slip 1 !(p=0)", -1);
            fault("slip 1 !", 8);
            fault("slip 1 (", 8);
            fault("slip 1 ()", 8);
            fault("slip 1 (p=0", 11);
            fault("slip 1 p=0)", 10);
            fault("slip 1 (p=0))", 12);
            fault("slip 1 p=0!", 10);
            fault("slip 1 p=0(p=0)", 10);
            fault("slip 1 (p=0)p=0", 12);
            sets("slip 1 !p=0", 0, 1, 1);
            sets("slip 1 !!p=0", 1, 0, 0);
            sets("slip 1 !p=0&p=1", 0, 1, 0);
            sets("slip 1 !(p=0&p=1)", 1, 1, 1);
            sets("slip 1 !p=0|p=0", 1, 1, 1);
            sets("slip 1 !(p=0|p=1)", 0, 0, 1);
            sets("slip 1 (p=0|p=1)&p>0", 0, 1, 0);
            sets("slip 1 p>0&(p=0|p=1)", 0, 1, 0);
            sets("slip 1 !(!p=0)&!(!(p<1))", 1, 0, 0);
        });
        holds(3, "p or k or n or g or s or y, one of < = >, a number likewise:", () -> {
            goesOn("slip 1 ", "!(pkngsy");
            goesOn("slip 1 !", "!(pkngsy");
            goesOn("slip 1 (", "!(pkngsy");
            goesOn("slip 1 p=0|", "!(pkngsy");
            goesOn("slip 1 p=0&", "!(pkngsy");
            for (int i = 0; i < 6; i++) goesOn("slip 1 " + "pkngsy".charAt(i), "<=>");
            goesOn("slip 1 y<", "0123456789");
            goesOn("slip 1 y=", "0123456789");
            goesOn("slip 1 y>", "0123456789");
            goesOn("slip 1 y>0", ";|&");
            goesOn("slip 1 y>1", ";|&0123456789");
            goesOn("slip 1 y>10", ";|&");
            goesOn("slip 1 (y>10", ")|&");
            goesOn("slip 1 (y>1", ")|&0123456789");
            goesOn("slip 1 (y>10)", ";|&");
            goesOn("slip 1 !(y>10", ")|&");
            goesOn("slip 1 !(y>10)", ";|&");
            for (int i = 0; i < 6; i++) {
                char letter = "pkngsy".charAt(i);
                sets("slip 1 " + letter + "<99", 1, 1, 1);
                sets("slip 1 " + letter + "=99", 0, 0, 0);
                sets("slip 1 " + letter + ">99", 0, 0, 0);
                sets("slip 1 " + letter + "<0", 0, 0, 0);
                sets("slip 1 !" + letter + "<0", 1, 1, 1);
            }
            fault("slip 1 p==0", 9);
            fault("slip 1 p<=0", 9);
            fault("slip 1 p=00", 10);
            fault("slip 1 p=100", 11);
            fault("slip 1 0=p", 7);
        });
    }

    private static void faults() {
        holds(3, "FAULT: the place of the first byte with which no INN can go on", () -> {
            String inn = "wide 12;slip 3 !(p<4|k=5)&n>60;pay 0";
            fault(inn, -1);
            for (int i = 0; i < inn.length(); i++) {
                fault(inn.substring(0, i) + "?" + inn.substring(i + 1), i);
                fault(inn.substring(0, i) + "?", i);
            }
            goesOn("", "wpsg");
            goesOn("wide 1;", "wpsg");
            goesOn("w", "i");
            goesOn("p", "a");
            goesOn("s", "l");
            goesOn("g", "l");
            fault("pay 1\0", 5);
            fault("pay 1\n", 5);
            fault("\0", 0);
            fault("?????", 0);
        });
        holds(3, "(the size, if it ends too early).", () -> {
            String inn = "wide 12;slip 3 !(p<4|k=5)&n>60;pay 0";
            for (int size = 0; size <= inn.length(); size++) {
                boolean whole = size == 6 || size == 7 || size == 25 || size == 29 || size == 30 || size == 36;
                fault(inn.substring(0, size), whole ? -1 : size);
            }
        });
    }

    private static void tests() {
        holds(3, "of one who tries a pile p the number,", () -> {
            for (int p = 0; p < 6; p++) {
                MatFlip x = with("slip 7 p=" + p + ";slip 20 p<" + p + ";slip 40 p>" + p);
                for (int i = 0; i < 6; i++) x.player(0, 0, 0, 1, 0);
                for (int i = 0; i < 6; i++) due("p " + p + " of " + i, x.pile(i, 3, 0, 1), i == p ? 10 : i < p ? 23 : 43);
            }
        });
        holds(3, "k KIND,", () -> {
            for (int k = 0; k < 7; k++) {
                MatFlip x = with("slip 7 k=" + k + ";slip 20 k<" + k + ";slip 40 k>" + k);
                for (int i = 6; i > 0; i--) x.player(i, 0, 0, 1, 0);
                for (int i = 1; i < 7; i++) due("k " + k + " of " + i, x.pile(6 - i, 3, 0, 1), i == k ? 10 : i < k ? 23 : 43);
            }
        });
        holds(3, "n mats of the pile by 10 (cut),", () -> {
            MatFlip x = one("slip 1 n=0;slip 2 n=1;slip 4 n=9;slip 8 n>9;slip 16 n<1", 0, 1, 0);
            due("1 mat", x.pile(0, 1, 0, 1), 1 + 17);
            due("9 mats", x.pile(0, 9, 0, 1), 9 + 17);
            due("10 mats", x.pile(0, 10, 0, 1), 10 + 2);
            due("19 mats", x.pile(0, 19, 0, 1), 19 + 2);
            due("20 mats", x.pile(0, 20, 0, 1), 20);
            due("89 mats", x.pile(0, 89, 0, 1), 89);
            due("90 mats", x.pile(0, 90, 0, 1), 90 + 4);
            due("99 mats", x.pile(0, 99, 0, 1), 99 + 4);
        });
        holds(3, "g GLASSES,", () -> {
            MatFlip x = one("slip 1 g=0;slip 2 g=9;slip 4 g>9;slip 8 g<9;slip 16 g=10", 0, 1, 0);
            due("sober", x.pile(0, 3, 0, 1), 3 + 9);
            x.set(0, 1, 8);
            due("by 8", x.pile(0, 3, 0, 1), 3 + 8);
            x.set(0, 1, 9);
            due("by 9", x.pile(0, 3, 0, 1), 3 + 2);
            MatFlip y = with("slip 1 g=5;slip 2 g=0;slip 4 g=10");
            y.player(4, 0, 0, 1, 0);
            y.player(5, 0, 0, 1, 0);
            y.set(0, 1, 5);
            y.set(1, 1, 5);
            due("a calm one's own, not 0", y.pile(0, 3, 0, 1), 4);
            due("a drunk one's own, not twice", y.pile(1, 3, 0, 1), 4);
        });
        holds(3, "s SKILL,", () -> {
            MatFlip x = one("slip 1 s=0;slip 2 s=20;slip 4 s>20;slip 8 s<20;slip 16 s=21", 0, 1, 0);
            due("0", x.pile(0, 3, 0, 1), 3 + 9);
            x.set(0, 0, 19);
            due("19", x.pile(0, 3, 0, 1), 3 + 8);
            x.set(0, 0, 20);
            due("20", x.pile(0, 3, 0, 1), 3 + 2);
        });
        holds(3, "y TRY modulo 10.", () -> {
            MatFlip x = one("slip 1 y=0;slip 2 y=9;slip 4 y>9;slip 8 y<9", 0, 1, 0);
            for (int t = 0; t <= 21; t++) {
                due("try " + t, x.pile(0, 3, 0, 1), 3 + (t % 10 == 0 ? 9 : t % 10 == 9 ? 2 : 8));
                x.go(0, 1, 0, 0);
            }
        });
    }

    private static void open() {
        holds(3, "At most 5 of ! and ( are open", () -> {
            for (int bits = 0; bits < 64; bits++) {
                fault("slip 1 " + opened(bits, 5) + "p=0" + closed(bits, 5), -1);
                fault("slip 1 " + opened(bits, 6) + "p=0" + closed(bits, 6), 12);
            }
            goesOn("slip 1 ((!((", "pkngsy");
            goesOn("slip 1 !!!!!", "pkngsy");
            goesOn("slip 1 !!!!", "!(pkngsy");
            sets("slip 1 !!!!!p=0", 0, 1, 1);
            sets("slip 1 !!!!p=0", 1, 0, 0);
            sets("slip 1 (!(!(p=0|p=1)|p=1))", 1, 0, 0);
        });
        holds(3, "(a ( till its ) ,", () -> {
            fault("slip 1 (((((p=0)))))&(((((p=0)))))", -1);
            fault("slip 1 (((((p=0))))&(p=0))", -1);
            fault("slip 1 (((((p=0))))&((((p=0)))))", -1);
            fault("slip 1 (((((p=0))))&(((((p=0))))))", 24);
            fault("slip 1 (((((p=0)&(p=0))&!p=0)))", -1);
            fault("slip 1 (((((p=0&(p=0)))))", 16);
            fault("slip 1 (((((p=0);pay 1", 16);
        });
        holds(3, "a ! till its F ends).", () -> {
            fault("slip 1 !!!!!p=0&!!!!!p=0|!!!!!p=0", -1);
            fault("slip 1 !!!!!p=0&!!!!!!p=0", 21);
            fault("slip 1 !!!!(p=0&!p=0)", 16);
            fault("slip 1 !!!(p=0&!p=0)", -1);
            fault("slip 1 !!!(p=0&!!p=0)", 16);
            fault("slip 1 !(!p=0&!(!p=0))", -1);
            fault("slip 1 !(!p=0&!(!(p=0)))", 17);
            fault("slip 1 (!!!!p=0&!!!!p=0)", -1);
            fault("slip 1 (!!!!p=0&!!!!!p=0)", 20);
            fault("slip 1 !!!!!p=0;slip 1 !!!!!p=0", -1);
        });
    }

    private static String opened(int bits, int depth) {
        StringBuilder signs = new StringBuilder();
        for (int i = 0; i < depth; i++) signs.append((bits >> i & 1) == 1 ? '!' : '(');
        return signs.toString();
    }

    private static String closed(int bits, int depth) {
        return ")".repeat(depth - Integer.bitCount(bits & (1 << depth) - 1));
    }

    private static void numbersOfInns() {
        holds(3, "INNS are numbered from 0 on, 5 at most;", () -> {
            MatFlip x = new MatFlip();
            due("a fault has no number", Checks.inn(x, "pay"), -13);
            for (int i = 0; i < 5; i++) {
                due("inn", Checks.inn(x, "pay 1"), i);
                if (i < 4) due("a fault takes none", Checks.inn(x, "?"), -10);
            }
            due("a sixth one", Checks.inn(x, "pay 1"), FULL);
            due("inns", x.count(1), 5);
        });
        holds(3, "the newest one holds;", () -> {
            MatFlip x = one("wide 9;pay 9;glue 9 p=0", 0, 1, 0);
            due("glue of the first", x.pile(0, 20, 0, 1), 11);
            Checks.inn(x, "slip 9 p=0");
            due("no glue any more", x.pile(0, 20, 0, 1), 29);
            due("nor wide", x.told(1), 6);
            due("nor pay", x.told(2), 1);
        });
        holds(3, "without one there are no CLAUSES.", () -> {
            MatFlip x = one(20, 3, 0);
            due("opens", x.pile(0, 30, 0, 1), 30);
            due("opens of 1", x.pile(0, 1, 0, 1), 1);
            due("opens of 99", x.pile(0, 99, 0, 1), 99);
        });
    }

    private static void told() {
        holds(8, "What 0 TRY, 1 WIDE, 2 PAY.", () -> {
            MatFlip x = one("wide 7;pay 8", 0, 1, 0);
            x.go(0, 1, 0, 0);
            dueAll("told", new long[] {x.told(0), x.told(1), x.told(2)}, 1, 7, 8);
        });
        holds(8, "WIDE (6 without),", () -> {
            due("no inn", new MatFlip().told(1), 6);
            due("an inn without", with("pay 3").told(1), 6);
            due("0 is not without", with("wide 0").told(1), 0);
            due("99", with("wide 99").told(1), 99);
        });
        holds(8, "PAY (1 without):", () -> {
            due("no inn", new MatFlip().told(2), 1);
            due("an inn without", with("wide 3").told(2), 1);
            due("0 is not without", with("pay 0").told(2), 0);
            due("99", with("pay 99").told(2), 99);
        });
        holds(8, "the last n.", () -> {
            due("pay 0 to 9", with(PAY_TEN_TIMES).told(2), 9);
            due("wide 9, then 0", with("wide 9;wide 0").told(1), 0);
            MatFlip x = with("wide 3;pay 4;wide 5;slip 9 p=0;pay 2");
            due("wide with others between", x.told(1), 5);
            due("pay with others between", x.told(2), 2);
        });
        holds(8, "NONE.", () -> {
            for (int what : out(0, 2)) stays("told " + what, x -> x.told(what), NONE);
        });
    }

    /** Place -1: no FAULT. */
    private static void fault(String signs, int place) {
        due("inn of '" + signs + "'", Checks.inn(new MatFlip(), signs), place < 0 ? 0 : -10 - place);
    }

    /** Behind the signs, which may be the begin of an INN, these bytes can come and no other ones. */
    private static void goesOn(String signs, String bytes) {
        for (int sign = 0; sign <= 127; sign++) {
            MatFlip x = new MatFlip();
            Checks.feed(x, signs);
            x.feed(sign);
            boolean can = bytes.indexOf(sign) >= 0;
            int answer = x.inn();
            if (can) due("'" + signs + "' and " + sign, answer == 0 || answer == -11 - signs.length() ? 1 : 0, 1);
            else due("'" + signs + "' and " + sign, answer, -10 - signs.length());
        }
    }

    /** By how much the INN lets the piles of players 0, 1, 2 be more open. */
    private static void sets(String inn, int more0, int more1, int more2) {
        MatFlip x = with(inn);
        for (int i = 0; i < 3; i++) x.player(0, 0, 0, 1, 0);
        int[] more = {more0, more1, more2};
        for (int i = 0; i < 3; i++) due(inn + " of " + i, x.pile(i, 15, 0, 1), 15 + more[i]);
    }
}
