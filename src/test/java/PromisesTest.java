/** At least one test for each promise of the document: ordinary inputs, edges, wrong inputs. */
public final class PromisesTest {
    private static final long NO = Long.MIN_VALUE;
    private static final int MIN = Integer.MIN_VALUE, MAX = Integer.MAX_VALUE;
    private static final Checks C = new Checks("PromisesTest");

    public static void main(String[] args) {
        constants();
        p1New();
        p2Feed();
        p3Inn();
        p3Faults();
        p4Player();
        p5Of();
        p5Unsure();
        p6Set();
        p7Row();
        p8Told();
        p9Turn();
        p9Opens();
        p10Would();
        p11Go();
        p12Odds();
        p13Mean();
        p14Best();
        p15Most();
        p16Learns();
        p17Plan();
        p18First();
        p19More();
        p20Record();
        p21Raise();
        p22Wager();
        p23Glass();
        p24Stuck();
        p25Floor();
        p26Order();
        p27Title();
        p28See();
        p29Can();
        p30Skills();
        p31Book();
        p32Looked();
        p33Act();
        p34Trace();
        p35As();
        p36Image();
        p37Undo();
        p38Count();
        questionsChangeNothing();
        C.end();
    }

    private static void due(String call, long got, long want) {
        C.due(call, got, want);
    }

    private static MatFlip with(String inn) {
        MatFlip x = new MatFlip();
        due("inn " + inn, Checks.inn(x, inn), 0);
        return x;
    }

    private static void constants() {
        due("NONE", MatFlip.NONE, -1);
        due("BAD", MatFlip.BAD, -2);
        due("STATE", MatFlip.STATE, -3);
        due("FULL", MatFlip.FULL, -4);
        due("NO", MatFlip.NO, NO);
    }

    private static void p1New() {
        MatFlip x = new MatFlip();
        for (int what = 0; what <= 5; what++) due("new count", x.count(what), 0);
        due("new told 0", x.told(0), 0);
        due("new told 1", x.told(1), 6);
        due("new told 2", x.told(2), 1);
        due("new of", x.of(0, 0), -1);
        due("new trace", x.trace(0), -1);
        due("new undo", x.undo(), -3);
        due("new title", x.title(-1), -5);
        due("new looked", x.looked(), -5);
        due("new order", x.order(0), -1);
    }

    private static void p2Feed() {
        MatFlip x = new MatFlip();
        due("feed -1", x.feed(-1), -2);
        due("feed 128", x.feed(128), -2);
        due("feed min", x.feed(MIN), -2);
        due("feed 0", x.feed(0), 1);
        due("feed 127", x.feed(127), 2);
        for (int i = 3; i <= 100; i++) due("feed i", x.feed('a'), i);
        due("feed 101", x.feed('a'), -4);
        due("bad ahead of full", x.feed(128), -2);
        due("tape of 100", x.count(4), 100);
        due("inn of a full tape", x.inn(), -10);
        due("tape is empty then", x.feed('a'), 1);
    }

    private static void p3Inn() {
        MatFlip x = new MatFlip();
        due("inn 0", Checks.inn(x, "wide 0;pay 99"), 0);
        due("tape is empty", x.count(4), 0);
        due("wide 0", x.told(1), 0);
        due("pay 99", x.told(2), 99);
        due("inn 1: the newest holds", Checks.inn(x, "pay 2;pay 3"), 1);
        due("wide without", x.told(1), 6);
        due("the last pay", x.told(2), 3);
        due("a fault", Checks.inn(x, "wide 7;pay"), -20);
        due("the one that held holds", x.told(2), 3);
        due("inn 2", Checks.inn(x, "wide 8;wide 9"), 2);
        due("the last wide", x.told(1), 9);
        due("inn 3", Checks.inn(x, "slip 1 p=0"), 3);
        due("inn 4", Checks.inn(x, "glue 10 s<20"), 4);
        Checks.feed(x, "?");
        due("full ahead of a fault", x.inn(), -4);
        due("the tape stays", x.count(4), 1);
        due("inns", x.count(1), 5);
    }

    private static void p3Faults() {
        fault("", 0);
        fault("x", 0);
        fault(";pay 1", 0);
        fault("Wide 1", 0);
        fault("wise 1", 2);
        fault("wide", 4);
        fault("wide1", 4);
        fault("wide ", 5);
        fault("wide  1", 5);
        fault("wide x", 5);
        fault("wide 123", 7);
        fault("wide 00", 6);
        fault("wide 05", 6);
        fault("wide 5 ", 6);
        fault("pay 1;", 6);
        fault("pay 1; pay 1", 6);
        fault("pay 1;;", 6);
        fault("pay 1,pay", 5);
        fault("slip", 4);
        fault("slip 5", 6);
        fault("slip 5 ", 7);
        fault("slip 5;", 6);
        fault("slip 5  p=1", 7);
        fault("slip 5 a=1", 7);
        fault("slip 5 p", 8);
        fault("slip 5 =1", 7);
        fault("slip 5 1", 7);
        fault("slip 5 p1", 8);
        fault("ide 1", 0);
        fault("pay 1;ay 1", 6);
        fault("slip 5 p!1", 8);
        fault("slip 5 p==1", 9);
        fault("slip 5 p=", 9);
        fault("slip 5 p=01", 10);
        fault("slip 5 p=123", 11);
        fault("slip 5 p=1)", 10);
        fault("slip 5 p=1&", 11);
        fault("slip 5 p=1|", 11);
        fault("slip 5 p=1&|p=1", 11);
        fault("slip 5 (p=1", 11);
        fault("slip 5 (p=1;", 11);
        fault("slip 5 ()", 8);
        fault("slip 5 !", 8);
        fault("slip 5 !!!!!p=1", -1);
        fault("slip 5 !!!!!!p=1", 12);
        fault("slip 5 (((((p=1)))))", -1);
        fault("slip 5 ((((((p=1))))))", 12);
        fault("slip 5 !(!(!p=1))&!!!!!p=1", -1);
        fault("slip 5 !(!(!(p=1)))", 12);
        fault("slip 5 (!p=1&!!!!p=1)", -1);
        fault("slip 5 (!p=1&!!!!!p=1)", 17);
        fault("slip 5 !p=1|(!!!!p=1|n<99)|y>0", -1);
        fault("pay 1;pay 1;pay 1;pay 1;pay 1;pay 1;pay 1;pay 1;pay 1;pay 1", -1);
        fault("pay 1;pay 1;pay 1;pay 1;pay 1;pay 1;pay 1;pay 1;pay 1;pay 1;", 59);
        fault("pay 1;pay 1;pay 1;pay 1;pay 1;pay 1;pay 1;pay 1;pay 1;pay 1;pay 1", 59);
        fault("glue 99 p<1|k>2&n=9|g=1&s=20|!(y>0&(p=0|!k=10))", -1);
    }

    /** Place -1: no FAULT. */
    private static void fault(String signs, int place) {
        due("inn of '" + signs + "'", Checks.inn(new MatFlip(), signs), place < 0 ? 0 : -10 - place);
    }

    private static void p4Player() {
        MatFlip x = new MatFlip();
        due("kind -1", x.player(-1, 10, 21, 0, -1), -1);
        due("kind 7", x.player(7, 0, 0, 1, 0), -1);
        due("v -1", x.player(0, -1, 0, 1, 0), -2);
        due("v 10", x.player(0, 10, 0, 1, 0), -2);
        due("skill -1", x.player(0, 0, -1, 1, 0), -2);
        due("skill 21", x.player(0, 0, 21, 1, 0), -2);
        due("hand 0", x.player(0, 0, 0, 0, 0), -2);
        due("hand 10", x.player(0, 0, 0, 10, 0), -2);
        due("purse -1", x.player(0, 0, 0, 1, -1), -2);
        due("purse 10000", x.player(0, 0, 0, 1, 10000), -2);
        due("refusals change nothing", x.count(0), 0);
        for (int i = 0; i < 6; i++) due("player", x.player(i + 1, 9, 20, 9, 9999), i);
        due("full", x.player(0, 0, 0, 1, 0), -4);
        due("none ahead of full", x.player(7, 0, 0, 1, 0), -1);
        due("bad ahead of full", x.player(0, 0, 0, 0, 0), -2);
    }

    private static void p5Of() {
        MatFlip x = new MatFlip();
        x.player(3, 4, 12, 7, 345);
        for (int what = 0; what <= 7; what++) {
            due("of " + what, x.of(0, what), new int[] {3, 4, 12, 7, 0, 0, 345, 0}[what]);
        }
        due("of -1", x.of(0, -1), -1);
        due("of 8", x.of(0, 8), -1);
        due("of nobody", x.of(1, 0), -1);
        due("of player -1", x.of(-1, 0), -1);
        due("of player min", x.of(MIN, MAX), -1);
    }

    /** UNSURE of each KIND with SKILL 7 and GLASSES 0, 3, 9, and with SKILL 20. */
    private static void p5Unsure() {
        int[][] due = {
            {2, 5, 11, 0}, {1, 2, 5, 0}, {2, 5, 11, 0}, {2, 5, 11, 0}, {1, 1, 1, 0}, {2, 8, 20, 0}, {2, 5, 11, 0}};
        for (int kind = 0; kind < 7; kind++) {
            MatFlip x = new MatFlip();
            x.player(kind, 0, 7, 1, 0);
            due("unsure sober, kind " + kind, x.of(0, 7), due[kind][0]);
            x.set(0, 1, 3);
            due("unsure by 3, kind " + kind, x.of(0, 7), due[kind][1]);
            x.set(0, 1, 9);
            due("unsure by 9, kind " + kind, x.of(0, 7), due[kind][2]);
            x.set(0, 1, 0);
            x.set(0, 0, 20);
            due("never below 0, kind " + kind, x.of(0, 7), due[kind][3]);
        }
        MatFlip x = new MatFlip();
        x.player(4, 0, 0, 1, 0);
        due("half of 3", x.of(0, 7), 1);
    }

    private static void p6Set() {
        MatFlip x = new MatFlip();
        x.player(0, 1, 5, 5, 5);
        due("skill was", x.set(0, 0, 20), 5);
        due("skill is", x.of(0, 2), 20);
        due("glasses were", x.set(0, 1, 9), 0);
        due("glasses are", x.of(0, 4), 9);
        due("score was", x.set(0, 2, 99), 0);
        due("score is", x.of(0, 5), 99);
        due("skill 21", x.set(0, 0, 21), -2);
        due("glasses 10", x.set(0, 1, 10), -2);
        due("score 100", x.set(0, 2, 100), -2);
        for (int what = 0; what < 3; what++) due("set -1", x.set(0, what, -1), -2);
        due("what 3", x.set(0, 3, -1), -1);
        due("what -1", x.set(0, -1, 0), -1);
        due("nobody", x.set(1, 0, -1), -1);
        due("skill 0", x.set(0, 0, 0), 20);
        due("glasses 0", x.set(0, 1, 0), 9);
        due("score 0", x.set(0, 2, 0), 99);
        due("v stays", x.of(0, 1), 1);
    }

    private static void p7Row() {
        MatFlip x = new MatFlip();
        x.player(3, 1, 5, 5, 5);
        x.player(6, 1, 5, 5, 5);
        for (int k = 0; k < 4; k++) due("row was", x.row(1, k, 9 - k), 4);
        for (int k = 0; k < 4; k++) due("row is", x.row(1, k, 0), 9 - k);
        due("nobody", x.row(2, 0, 10), -1);
        due("k 4", x.row(0, 4, 10), -1);
        due("k -1", x.row(1, -1, 0), -1);
        due("n 10", x.row(1, 0, 10), -2);
        due("n -1", x.row(1, 0, -1), -2);
        due("bad ahead of state", x.row(0, 0, 10), -2);
        due("another kind", x.row(0, 0, 9), -3);
    }

    private static void p8Told() {
        MatFlip x = with("pay 7;wide 12");
        due("what -1", x.told(-1), -1);
        due("what 3", x.told(3), -1);
        due("wide", x.told(1), 12);
        due("pay", x.told(2), 7);
        x.player(0, 0, 0, 1, 0);
        x.go(0, 1, 0, 0);
        due("try", x.told(0), 1);
    }

    private static void p9Turn() {
        MatFlip x = new MatFlip();
        int[] due = {35, 35, 40, 30, 35, 40};
        for (int kind = 0; kind < 6; kind++) {
            x.player(kind, 5, 0, 1, 0);
            due("turn of kind " + kind, x.pile(kind, 31, 10, 0), due[kind]);
        }
        due("half of 1 is 0", x.pile(0, 1, 0, 0), 0);
        due("below 0", x.pile(0, 99, 0, 0), -49);
        due("force 20", x.pile(0, 1, 20, 0), 100);
        due("none: nobody", x.pile(6, 0, 21, 0), -1001);
        due("none: what 2", x.pile(0, 0, 21, 2), -1001);
        due("none: what -1", x.pile(0, 1, 0, -1), -1001);
        due("bad: 0 mats", x.pile(0, 0, 0, 0), -1002);
        due("bad: 100 mats", x.pile(0, 100, 0, 1), -1002);
        due("bad: force -1", x.pile(0, 1, -1, 0), -1002);
        due("bad: force 21", x.pile(0, 1, 21, 1), -1002);

        MatFlip y = new MatFlip();
        y.player(6, 5, 0, 1, 0);
        for (int k = 0; k < 4; k++) y.row(0, k, 2 * k);
        for (int t = 0; t < 6; t++) {
            due("turn of a told one by try " + t, y.pile(0, 31, 10, 0), 50 - 15 - 5 + 2 * (t % 4) - 4);
            y.go(0, 1, 0, 0);
        }
    }

    private static void p9Opens() {
        opens("slip 7 p=1", 20, 27, 20);
        opens("slip 7 p<1", 20, 20, 27);
        opens("slip 7 k=4", 20, 27, 20);
        opens("slip 7 n=2", 20, 27, 27);
        opens("slip 7 n=2", 29, 36, 36);
        opens("slip 7 n>2", 29, 29, 29);
        opens("slip 7 g=3", 20, 27, 20);
        opens("slip 7 s=11", 20, 27, 20);
        opens("slip 7 y=2", 20, 27, 27);
        opens("slip 7 y<2", 20, 20, 20);
        opens("slip 7 p<99", 20, 27, 27);
        opens("slip 7 y<99", 20, 27, 27);
        opens("slip 7 y>99", 20, 20, 20);
        opens("slip 7 k=99", 20, 20, 20);
        opens("slip 7 !s>98&g<99", 20, 27, 27);
        opens("glue 7 p=1", 20, 13, 20);
        opens("glue 21 y=2", 20, 0, 0);
        opens("glue 30 y=2;slip 15 y=2", 20, 5, 5);
        opens("slip 99 y=2;slip 99 p=1;glue 3 p=0", 99, 297, 195);
        opens("slip 7 !p=1", 20, 20, 27);
        opens("slip 7 !!p=1", 20, 27, 20);
        opens("slip 7 p=1&k=3", 20, 20, 20);
        opens("slip 7 p=1|k=3", 20, 27, 20);
        opens("slip 7 p=0|p=1&s=11", 20, 27, 27);
        opens("slip 7 p=0&s=1|p=1", 20, 27, 20);
        opens("slip 7 (p=0|p=1)&s=0", 20, 20, 27);
        opens("slip 7 p=0|p=1&s=0", 20, 20, 27);
        opens("slip 7 !p=0&s=11", 20, 27, 20);
        opens("slip 7 !(p=0|s=11)", 20, 20, 20);
        opens("slip 7 !(p=0&s=11)", 20, 27, 27);
        opens("slip 1 p=0;slip 2 p=1;wide 3;slip 4 p<2;pay 4;glue 1 k>0", 20, 25, 25);
    }

    /** Player 0 is KIND 0, SKILL 0; player 1 KIND 4, SKILL 11, GLASSES 3; TRY is 2. */
    private static void opens(String inn, int n, int ofOne, int ofNought) {
        MatFlip x = with(inn);
        x.player(0, 0, 0, 1, 0);
        x.player(4, 0, 11, 1, 0);
        x.set(1, 1, 3);
        x.go(0, 50, 0, 0);
        x.go(0, 50, 0, 0);
        due("opens of 1, " + inn, x.pile(1, n, 0, 1), ofOne);
        due("opens of 0, " + inn, x.pile(0, n, 20, 1), ofNought);
    }

    private static void p10Would() {
        MatFlip x = new MatFlip();
        x.player(0, 0, 0, 2, 0);
        // UNSURE 3, TURN 50 by force 11 and 10 mats, WIDE 6.
        int[] due = {5, 5, 10, 10, 10, 10, 10, 5, 5, 0};
        for (int draw = 0; draw < 10; draw++) due("draw " + draw, x.would(0, 10, 11, draw), due[draw]);
        due("half of 21, hands too small", x.would(0, 21, 12, 4), 10);
        due("20 fit", x.would(0, 20, 12, 4), 20);
        due("40 by twice the hand", x.would(0, 40, 14, 4), 20);
        due("41 by more", x.would(0, 41, 14, 4), 0);
        due("half of 1", x.would(0, 1, 8, 4), 0);
        due("nobody", x.would(1, 0, 21, 10), -1);
        due("0 mats", x.would(0, 0, 0, 0), -2);
        due("100 mats", x.would(0, 100, 0, 0), -2);
        due("force -1", x.would(0, 1, -1, 0), -2);
        due("force 21", x.would(0, 1, 21, 0), -2);
        due("draw -1", x.would(0, 1, 0, -1), -2);
        due("draw 10", x.would(0, 1, 0, 10), -2);
        due("no try is done", x.told(0), 0);

        // TURN 45: a greater DRAW is nearer.
        due("draw 0 by 45", x.would(0, 10, 10, 0), 0);
        due("draw 3 by 45", x.would(0, 10, 10, 3), 5);
        due("draw 4 by 45", x.would(0, 10, 10, 4), 10);
        due("draw 7 by 45", x.would(0, 10, 10, 7), 10);
        due("draw 8 by 45", x.would(0, 10, 10, 8), 5);

        MatFlip y = with("wide 5;slip 15 p=1");
        y.player(0, 0, 20, 1, 0);
        y.player(0, 0, 20, 1, 0);
        due("off 5", y.would(0, 10, 10, 0), 10);
        due("off 10", y.would(0, 10, 9, 0), 5);
        due("off 15", y.would(0, 10, 8, 0), 0);
        due("over by 10", y.would(0, 10, 13, 9), 5);
        due("slips", y.would(1, 5, 10, 0), 2);
        due("slips more", y.would(1, 6, 10, 0), 0);
    }

    private static void p11Go() {
        MatFlip x = with("pay 3");
        x.player(0, 0, 10, 5, 100);
        due("5 caught", x.go(0, 5, 10, 4), 5);
        state(x, 11, 5, 100);
        due("11 caught, 6 apart", x.go(0, 11, 11, 4), 11);
        state(x, 11, 11, 100);
        due("6 caught, below, 5 apart", x.go(0, 6, 11, 4), 6);
        state(x, 12, 11, 100);
        due("5 caught, below, 6 apart", x.go(0, 5, 11, 4), 5);
        state(x, 12, 11, 100);
        due("half of 15", x.go(0, 15, 13, 4), 7);
        state(x, 12, 11, 76);
        due("none of 60", x.go(0, 60, 0, 4), 0);
        state(x, 12, 11, 0);
        due("16 caught", x.go(0, 16, 12, 4), 16);
        state(x, 13, 16, 0);
        x.set(0, 0, 20);
        due("16 again", x.go(0, 16, 12, 4), 16);
        state(x, 20, 16, 0);
        due("tries", x.told(0), 8);
        due("nobody", x.go(1, 0, 21, 10), -1);
        due("0 mats", x.go(0, 0, 0, 0), -2);
        due("100 mats", x.go(0, 100, 0, 0), -2);
        due("force 21", x.go(0, 1, 21, 0), -2);
        due("force -1", x.go(0, 1, -1, 0), -2);
        due("draw 10", x.go(0, 1, 1, 10), -2);
        due("draw -1", x.go(0, 1, 1, -1), -2);
        due("refusals are no tries", x.told(0), 8);

        MatFlip y = with("slip 5 y=0;slip 7 y=3");
        y.player(0, 0, 0, 1, 0);
        for (int t = 0; t < 25; t++) {
            due("y by try " + t, y.pile(0, 1, 0, 1), t % 10 == 0 ? 6 : t % 10 == 3 ? 8 : 1);
            y.go(0, 1, 0, 0);
        }
        // An object is not promised to live that long, but the refusal is.
        for (int t = 25; t < 9999; t++) y.go(0, 1, 0, 0);
        due("tries till the last", y.told(0), 9999);
        due("try 9999", y.go(0, 1, 0, 0), -3);
        due("bad ahead of state", y.go(0, 0, 0, 0), -2);
        due("try 9999 stays", y.told(0), 9999);
    }

    private static void state(MatFlip x, int skill, int score, int purse) {
        due("skill then", x.of(0, 2), skill);
        due("score then", x.of(0, 5), score);
        due("purse then", x.of(0, 6), purse);
    }

    private static void p12Odds() {
        MatFlip x = new MatFlip();
        x.player(0, 0, 0, 2, 0);
        due("by force 11", x.odds(0, 10, 11), 5);
        due("by force 10: TURN 45", x.odds(0, 10, 10), 4);
        due("by force 12: TURN 55", x.odds(0, 10, 12), 4);
        due("by force 8: TURN 35", x.odds(0, 10, 8), 3);
        due("by force 15: TURN 70", x.odds(0, 10, 15), 0);
        due("too many", x.odds(0, 21, 12), 0);
        x.set(0, 0, 8);
        due("draws 0 to 5", x.odds(0, 10, 12), 6);
        due("draws 3 to 9", x.odds(0, 10, 10), 7);
        x.set(0, 0, 20);
        due("sure", x.odds(0, 10, 12), 10);
        due("sure of a miss", x.odds(0, 10, 13), 0);
        due("nobody", x.odds(1, 0, 0), -1);
        due("0 mats", x.odds(0, 0, 0), -2);
        due("force 21", x.odds(0, 1, 21), -2);
        due("force -1", x.odds(0, 1, -1), -2);
    }

    private static void p13Mean() {
        MatFlip x = new MatFlip();
        x.player(0, 0, 0, 2, 0);
        due("70 by 10", x.mean(0, 10, 11, 0), 7);
        due("below", x.mean(0, 10, 11, 1), 1);
        due("1 mat by 5 of 10", x.mean(0, 1, 10, 0), 1);
        due("1 mat, below", x.mean(0, 1, 10, 1), 2);
        due("none", x.mean(0, 99, 0, 0), 0);
        due("none, below", x.mean(0, 99, 0, 1), 1);
        due("7 mats: 28 and 12 by 10", x.mean(0, 7, 11, 0), 4);
        due("3 mats: 12 and 4 by 10", x.mean(0, 3, 10, 0), 8);
        due("3 mats, below", x.mean(0, 3, 10, 1), 5);
        due("nobody", x.mean(1, 1, 1, 0), NO);
        due("0 mats", x.mean(0, 0, 1, 0), NO);
        due("force 21", x.mean(0, 1, 21, 0), NO);
        due("part 2", x.mean(0, 1, 1, 2), NO);
        due("part -1", x.mean(0, 1, 1, -1), NO);
    }

    private static void p14Best() {
        MatFlip x = new MatFlip();
        x.player(0, 0, 0, 2, 0);
        due("force", x.best(0, 10, 0), 11);
        due("odds", x.best(0, 10, 1), 5);
        due("too many: the least force", x.best(0, 21, 0), 0);
        due("too many: odds", x.best(0, 21, 1), 0);
        x.set(0, 0, 20);
        due("the least of several", x.best(0, 10, 0), 10);
        due("10 of 10", x.best(0, 10, 1), 10);
        due("nobody", x.best(1, 0, 0), -1);
        due("what 2, too", x.best(0, 0, 2), -1);
        due("what -1", x.best(0, 1, -1), -1);
        due("0 mats", x.best(0, 0, 0), -2);
        due("100 mats", x.best(0, 100, 1), -2);
    }

    private static void p15Most() {
        MatFlip x = new MatFlip();
        x.player(0, 0, 20, 2, 0);
        x.player(4, 0, 20, 9, 0);
        due("by the hand", x.most(0), 20);
        due("of 9", x.most(1), 90);
        x.set(0, 0, 0);
        due("5 of 10 do", x.most(0), 20);
        x.set(0, 1, 1);
        due("4 of 10 don't", x.most(0), 0);
        MatFlip y = with("wide 0;slip 99 n>0");
        y.player(0, 0, 20, 1, 0);
        due("one mat alone", y.most(0), 1);
        due("nobody", x.most(2), -1);
        due("player -1", x.most(-1), -1);
        due("inn 0", Checks.inn(x, "glue 50 n>3"), 0);
        due("beyond a gap", x.most(1), 99);
    }

    private static void p16Learns() {
        MatFlip x = with("glue 9 n=9;slip 30 n=2");
        x.player(0, 0, 20, 9, 0);
        due("from 1 to 5", x.learns(0), 5);
        x.set(0, 2, 99);
        due("up to 99", x.learns(0), 99);
        x.set(0, 2, 84);
        due("89 of 79 .. 89", x.learns(0), 89);
        MatFlip y = with("slip 90 n>1;slip 90 y=1");
        y.player(0, 0, 20, 1, 0);
        y.set(0, 2, 8);
        due("10 of 3 .. 13", y.learns(0), 10);
        y.set(0, 2, 30);
        due("all alike: the greatest", y.learns(0), 35);
        y.set(0, 2, 2);
        due("from 1", y.learns(0), 7);
        y.set(0, 2, 0);
        y.go(0, 1, 0, 0);
        due("none at all", y.learns(0), 5);
        MatFlip z = with("wide 0");
        z.player(0, 0, 20, 1, 0);
        due("one mat alone", z.learns(0), 1);
        due("nobody", x.learns(1), -1);
    }

    private static void p17Plan() {
        MatFlip x = new MatFlip();
        x.player(0, 0, 0, 2, 0);
        // By 5 of ten DRAWS 20 are caught.
        due("one try", x.plan(0, 1, 0), 10);
        due("one try, below", x.plan(0, 1, 1), 1);
        due("two tries", x.plan(0, 2, 0), 15);
        due("two tries, below", x.plan(0, 2, 1), 1);
        due("three tries", x.plan(0, 3, 0), 35);
        due("three tries, below", x.plan(0, 3, 1), 2);
        x.set(0, 2, 70);
        due("a score that stays", x.plan(0, 3, 0), 70);
        // With SKILL 3, one more makes UNSURE 2: 7 of ten.
        MatFlip y = new MatFlip();
        y.player(0, 0, 3, 1, 0);
        y.set(0, 2, 5);
        due("ten, then learning or ten", y.plan(0, 2, 0), 35);
        due("ten, below", y.plan(0, 2, 1), 4);
        // SKILL 1 lets 60 be caught; by SCORE 31 it comes from 30 or 35 mats: half of 47 1/2 and of 33.
        MatFlip z = with("glue 99 s>0|n=3");
        z.player(0, 0, 0, 1, 0);
        z.set(0, 2, 31);
        due("learning at 30 or 35", z.first(0, 2), 35);
        due("learning, the mean", z.plan(0, 2, 0), 161);
        due("learning, below", z.plan(0, 2, 1), 4);
        due("nobody", x.plan(1, 1, 0), NO);
        due("0 tries", x.plan(0, 0, 0), NO);
        due("4 tries", x.plan(0, 4, 0), NO);
        due("part 2", x.plan(0, 1, 2), NO);
        due("part -1", x.plan(0, 1, -1), NO);
        due("nothing changes", y.of(0, 2), 3);
    }

    private static void p18First() {
        MatFlip x = new MatFlip();
        x.player(0, 0, 0, 2, 0);
        due("one try", x.first(0, 1), 20);
        x.set(0, 2, 70);
        due("no use: the least", x.first(0, 1), 5);
        // SKILL 1 lets 60 be caught, and 5 mats teach it.
        MatFlip y = with("glue 99 s>0");
        y.player(0, 0, 0, 1, 0);
        due("no time to learn", y.first(0, 1), 10);
        due("learning first", y.first(0, 2), 5);
        due("learning first: the mean", y.plan(0, 2, 0), 75);
        due("learning first: below", y.plan(0, 2, 1), 4);
        due("nobody", x.first(1, 0), -1);
        due("0 tries", x.first(0, 0), -2);
        due("4 tries", x.first(0, 4), -2);
    }

    private static void p19More() {
        MatFlip x = new MatFlip();
        x.player(0, 0, 0, 2, 0);
        x.player(0, 0, 0, 9, 0);
        x.set(1, 2, 19);
        due("1/2", x.more(0, 1, 1, 0), 1);
        due("1/2 below", x.more(0, 1, 1, 1), 2);
        due("63/64", x.more(0, 1, 6, 0), 63);
        due("63/64 below", x.more(0, 1, 6, 1), 64);
        x.set(1, 2, 20);
        due("21 don't fit", x.more(0, 1, 6, 0), 0);
        due("21, below", x.more(0, 1, 6, 1), 1);
        Checks.inn(x, "glue 99 p=0&n>8");
        x.set(1, 2, 99);
        due("99 at most", x.more(0, 1, 1, 1), 2);
        due("nobody", x.more(0, 2, 1, 0), NO);
        due("nobody", x.more(-1, 1, 1, 0), NO);
        due("one is both", x.more(1, 1, 1, 0), NO);
        due("0 tries", x.more(0, 1, 0, 0), NO);
        due("7 tries", x.more(0, 1, 7, 0), NO);
        due("part 2", x.more(0, 1, 1, 2), NO);
    }

    private static void p20Record() {
        MatFlip x = with("wide 0;glue 9 n=1");
        x.player(0, 0, 20, 2, 0);
        due("sure", x.record(0, 10), 1);
        due("too many", x.record(0, 31), -5);
        x.set(0, 0, 0);
        due("1 of 10: 7 tries", x.record(0, 10), 7);
        due("nobody", x.record(1, 0), -1);
        due("0 mats", x.record(0, 0), -2);
        due("100 mats", x.record(0, 100), -2);
        MatFlip y = new MatFlip();
        y.player(0, 0, 0, 9, 0);
        int[] odds = {5, 4, 3, 2, 2, 2};
        int[] tries = {1, 2, 2, 4, 4, 4};
        int[] glasses = {0, 1, 2, 3, 4, 5};
        for (int i = 0; i < 6; i++) {
            y.set(0, 1, glasses[i]);
            if (y.best(0, 10, 1) == odds[i]) due("record by odds " + odds[i], y.record(0, 10), tries[i]);
        }
    }

    private static void p21Raise() {
        MatFlip x = new MatFlip();
        x.player(0, 0, 0, 2, 0);
        x.player(0, 0, 20, 3, 0);
        x.player(0, 0, 20, 3, 0);
        // Player 0 catches by 5 of ten, at most 20; player 1 all, at most 30.
        raised(x, new int[] {0, 1, 10, 1}, 0, 1, 1, 2);
        raised(x, new int[] {0, 1, 10, 2}, 0, 1, 1, 2);
        raised(x, new int[] {0, 1, 10, 3}, 0, 1, 1, 4);
        raised(x, new int[] {1, 0, 10, 4}, 3, 4, 1, 4);
        raised(x, new int[] {1, 0, 10, 8}, 15, 16, 1, 16);
        raised(x, new int[] {1, 2, 29, 8}, 0, 1, 0, 1);
        raised(x, new int[] {1, 2, 30, 2}, 1, 1, 0, 1);
        raised(x, new int[] {1, 2, 31, 8}, 0, 1, 0, 1);
        raised(x, new int[] {1, 2, 99, 8}, 0, 1, 0, 1);
        Checks.inn(x, "glue 99 p>0");
        raised(x, new int[] {1, 2, 99, 8}, 0, 1, 1, 1);
        due("nobody", x.raise(0, 3, 1, 1, 0, 0), NO);
        due("nobody", x.raise(3, 0, 1, 1, 0, 0), NO);
        due("one is both", x.raise(1, 1, 1, 1, 0, 0), NO);
        due("0 mats", x.raise(0, 1, 0, 1, 0, 0), NO);
        due("100 mats", x.raise(0, 1, 100, 1, 0, 0), NO);
        due("0 tries", x.raise(0, 1, 1, 0, 0, 0), NO);
        due("9 tries", x.raise(0, 1, 1, 9, 0, 0), NO);
        due("what 2", x.raise(0, 1, 1, 1, 2, 0), NO);
        due("what -1", x.raise(0, 1, 1, 1, -1, 0), NO);
        due("part 2", x.raise(0, 1, 1, 1, 0, 2), NO);
    }

    private static void raised(MatFlip x, int[] of, long winAbove, long winBelow, long drawAbove, long drawBelow) {
        String call = "raise " + of[0] + " " + of[1] + " " + of[2] + " " + of[3];
        due(call + " win", x.raise(of[0], of[1], of[2], of[3], 0, 0), winAbove);
        due(call + " win below", x.raise(of[0], of[1], of[2], of[3], 0, 1), winBelow);
        due(call + " draw", x.raise(of[0], of[1], of[2], of[3], 1, 0), drawAbove);
        due(call + " draw below", x.raise(of[0], of[1], of[2], of[3], 1, 1), drawBelow);
    }

    private static void p22Wager() {
        MatFlip x = new MatFlip();
        x.player(0, 0, 20, 2, 50);
        x.player(0, 0, 0, 2, 9999);
        due("sure", x.wager(0, 1, 50), 1);
        due("stakes more than it has", x.wager(0, 1, 51), 0);
        due("no stake, no gain", x.wager(0, 1, 0), 0);
        due("5 of 10 is no gain", x.wager(1, 0, 999), 0);
        x.set(1, 0, 4);
        due("7 of 10 is one, above 9999 too", x.wager(1, 0, 999), 1);
        x.set(1, 2, 19);
        due("20 fit", x.wager(0, 1, 50), 1);
        x.set(1, 2, 20);
        due("21 don't", x.wager(0, 1, 50), 0);
        due("nobody", x.wager(2, 2, 1000), -1);
        due("nobody", x.wager(0, 2, 1), -1);
        due("one is both", x.wager(0, 0, 1), -2);
        due("stake -1", x.wager(0, 1, -1), -2);
        due("stake 1000", x.wager(0, 1, 1000), -2);
    }

    private static void p23Glass() {
        MatFlip x = with("slip 50 g<3;glue 10 g=5");
        x.player(4, 0, 20, 2, 0);
        due("glasses", x.glass(0, 0), 5);
        due("most by it", x.glass(0, 1), 30);
        due("own glasses stay", x.of(0, 4), 0);
        due("own most", x.most(0), 0);
        MatFlip y = new MatFlip();
        y.player(0, 0, 0, 2, 0);
        y.set(0, 1, 9);
        due("sober is best", y.glass(0, 0), 0);
        due("most sober", y.glass(0, 1), 20);
        MatFlip w = with("slip 99 g<9");
        w.player(4, 0, 20, 2, 0);
        due("by 9 alone", w.glass(0, 0), 9);
        due("most by 9", w.glass(0, 1), 20);
        due("what 2", x.glass(0, 2), -1);
        due("what -1", x.glass(0, -1), -1);
        due("nobody", x.glass(1, 0), -1);
        MatFlip z = with("slip 99 n<10");
        z.player(0, 0, 20, 2, 0);
        due("nothing by any", z.glass(0, 0), 0);
        due("most 0", z.glass(0, 1), 0);
    }

    private static void p24Stuck() {
        MatFlip x = with("slip 30 n=9;slip 31 n=8;glue 99 n=1");
        x.player(0, 0, 0, 2, 0);
        due("fits", x.stuck(0, 20), 0);
        due("one too many", x.stuck(0, 21), 1);
        due("far below", x.stuck(0, 15), 0);
        due("99 will do", x.stuck(0, 88), 99);
        due("100 won't", x.stuck(0, 89), -5);
        due("nobody", x.stuck(1, 0), -1);
        due("0 mats", x.stuck(0, 0), -2);
        due("100 mats", x.stuck(0, 100), -2);
    }

    private static void p25Floor() {
        MatFlip x = with("pay 5;wide 6");
        x.player(0, 0, 0, 2, 1);
        due("5 times 30 by 10", x.floor(0, 10, 11, 0), 15);
        due("below", x.floor(0, 10, 11, 1), 1);
        due("7 mats: 5 times 30 by 10", x.floor(0, 7, 11, 0), 15);
        due("3 mats: 5 times 14 by 10", x.floor(0, 3, 10, 0), 7);
        due("all on the floor", x.floor(0, 99, 0, 0), 495);
        x.set(0, 0, 20);
        due("none on the floor", x.floor(0, 10, 11, 0), 0);
        due("none, below", x.floor(0, 10, 11, 1), 1);
        Checks.inn(x, "pay 0");
        due("pay 0", x.floor(0, 99, 0, 0), 0);
        due("nobody", x.floor(1, 1, 1, 0), NO);
        due("0 mats", x.floor(0, 0, 1, 0), NO);
        due("force 21", x.floor(0, 1, 21, 0), NO);
        due("part 2", x.floor(0, 1, 1, 2), NO);
        due("part -1", x.floor(0, 1, 1, -1), NO);
    }

    private static void p26Order() {
        MatFlip x = new MatFlip();
        int[] hands = {2, 5, 3, 5, 1};
        for (int hand : hands) x.player(0, 0, 20, hand, 0);
        int[] due = {1, 3, 2, 0, 4};
        for (int k = 0; k < 5; k++) due("order " + k, x.order(k), due[k]);
        due("order 5", x.order(5), -1);
        due("order -1", x.order(-1), -1);
    }

    private static void p27Title() {
        MatFlip x = new MatFlip();
        due("nobody", x.title(0), -1);
        due("nobody has most", x.title(-1), -5);
        x.player(0, 0, 20, 2, 0);
        due("alone", x.title(0), 0);
        due("alone, most", x.title(-1), 0);
        x.player(0, 0, 20, 3, 0);
        // From 30: player 0 can't, player 1 wins.
        due("the lesser hand", x.title(0), 0);
        due("the greater hand", x.title(1), 2);
        due("who", x.title(-1), 1);
        x.player(0, 0, 20, 3, 0);
        // From 30: player 1 catches 30, player 2 fails at 31.
        due("two alike: first", x.title(1), 4);
        due("two alike: second", x.title(2), 2);
        due("who of three", x.title(-1), 1);
        due("title -2", x.title(-2), -1);
        due("title 3", x.title(3), -1);
        // From 49, not from 20; both from the 99th on.
        MatFlip w = with("glue 99 p=0&n=4");
        w.player(0, 0, 20, 1, 0);
        w.player(0, 0, 20, 2, 0);
        due("from the greater of their mosts", w.title(0), 2);
        // 8 and 7 of ten at 99 mats: by 3 or 5 tries the second would be ahead.
        MatFlip v = with("wide 7;glue 99 n>0");
        v.player(0, 0, 4, 9, 0);
        v.player(2, 4, 4, 9, 0);
        due("8 of ten", v.best(0, 99, 1), 8);
        due("7 of ten", v.best(1, 99, 1), 7);
        due("by 4 tries", v.title(0), 2);
        due("by 4 tries, the second", v.title(1), 0);
        MatFlip y = with("glue 99 n<10");
        for (int i = 0; i < 3; i++) y.player(0, 0, 20, 1, 0);
        for (int i = 0; i < 3; i++) due("draws", y.title(i), 2);
        due("the least of several", y.title(-1), 0);
        // 11 lie open of one mat, but of none 10, which would fit.
        MatFlip z = with("slip 10 n<10");
        for (int i = 0; i < 2; i++) z.player(0, 0, 20, 1, 0);
        due("from 1 at least: the first fails", z.title(0), 0);
        due("from 1 at least: the second wins", z.title(1), 2);
        MatFlip u = with("wide 0;slip 99 n>0");
        for (int i = 0; i < 2; i++) u.player(0, 0, 20, 1, 0);
        due("from 1: the first catches", u.title(0), 2);
        due("from 1: the second fails at 2", u.title(1), 0);
    }

    private static void p28See() {
        MatFlip x = new MatFlip();
        due("none of nobody", x.see(-1, 0, 21, 100), 0);
        x.player(0, 0, 0, 2, 0);
        due("nobody", x.see(1, 0, 21, 100), -1);
        due("player -2", x.see(-2, 1, 1, 1), -1);
        due("0 mats", x.see(0, 0, 1, 1), -2);
        due("100 mats", x.see(0, 100, 1, 1), -2);
        due("force 21", x.see(0, 1, 21, 1), -2);
        due("force -1", x.see(0, 1, -1, 1), -2);
        due("caught -1", x.see(0, 1, 1, -1), -2);
        due("caught 100", x.see(0, 1, 1, 100), -2);
        for (int i = 1; i <= 8; i++) due("seen", x.see(0, 1, 20, 99), i);
        due("full", x.see(0, 1, 1, 1), -4);
        due("bad ahead of full", x.see(0, 0, 1, 1), -2);
        due("none then", x.see(-1, MIN, MAX, MIN), 0);
        due("count", x.count(2), 0);
        due("seen again", x.see(0, 99, 0, 0), 1);
    }

    private static void p29Can() {
        MatFlip x = new MatFlip();
        x.player(0, 0, 0, 2, 0);
        x.see(0, 10, 11, 10);
        x.see(0, 10, 11, 5);
        x.see(0, 10, 11, 0);
        x.see(0, 10, 11, 7);
        due("all", x.can(0), 0b0001111100);
        due("half", x.can(1), 0b0110000011);
        due("none", x.can(2), 0b1000000000);
        due("never", x.can(3), 0);
        x.set(0, 0, 20);
        due("as it is now", x.can(0), 1023);
        x.player(1, 0, 4, 1, 0);
        x.see(1, 10, 12, 10);
        due("of another one: UNSURE 1", x.can(4), 0b0000111111);
        due("can 5", x.can(5), -1);
        due("can -1", x.can(-1), -1);
    }

    private static void p30Skills() {
        MatFlip x = new MatFlip();
        x.player(0, 0, 5, 2, 0);
        x.player(0, 0, 5, 2, 0);
        due("nothing seen", x.skills(0), (1 << 21) - 1);
        x.see(0, 10, 11, 0);
        // OFF above 12 asks for UNSURE 3: SKILL 0 .. 3.
        due("missed", x.skills(0), 0b1111);
        due("of another one", x.skills(1), (1 << 21) - 1);
        x.see(0, 10, 11, 10);
        due("missed and caught", x.skills(0), 0b1111);
        x.see(0, 10, 11, 3);
        due("never", x.skills(0), 0);
        x.see(-1, 0, 0, 0);
        x.see(0, 10, 11, 5);
        due("half asks for UNSURE 2: below 8", x.skills(0), 0xff);
        Checks.inn(x, "glue 5 s=2|s=20;slip 30 s=3");
        x.see(-1, 0, 0, 0);
        x.see(0, 25, 12, 25);
        due("by the inn", x.skills(0), 1 << 2 | 1 << 20);
        due("own skill stays", x.of(0, 2), 5);
        due("nobody", x.skills(2), -1);
        due("player -1", x.skills(-1), -1);
    }

    private static void p31Book() {
        MatFlip x = new MatFlip();
        due("none of nobody", x.book(-1, 100), 0);
        x.player(0, 0, 0, 2, 0);
        due("nobody", x.book(1, 100), -1);
        due("player -2", x.book(-2, 0), -1);
        due("most -1", x.book(0, -1), -2);
        due("most 100", x.book(0, 100), -2);
        for (int i = 1; i <= 8; i++) due("row", x.book(0, i == 1 ? 0 : 99), i);
        due("full", x.book(0, 1), -4);
        due("bad ahead of full", x.book(0, 100), -2);
        due("none then", x.book(-1, MIN), 0);
        due("count", x.count(3), 0);
        due("row again", x.book(0, 1), 1);
    }

    private static void p32Looked() {
        MatFlip x = new MatFlip();
        x.player(0, 0, 20, 2, 0);
        x.player(0, 0, 20, 3, 0);
        due("no rows", x.looked(), -5);
        x.book(1, 30);
        x.book(0, 20);
        due("all are so", x.looked(), -5);
        x.book(0, 21);
        x.book(0, 19);
        due("the first", x.looked(), 2);
        x.set(1, 1, 9);
        due("as things are now", x.looked(), 0);
    }

    private static void p33Act() {
        MatFlip x = new MatFlip();
        for (int kind = 0; kind < 6; kind++) x.player(kind, 2 + kind, 0, 1, 0);
        act(x, 0, 0, 10, 10, 1);
        act(x, 0, 1, 10, 8, 2, 1);
        act(x, 0, 2, 10, 16, 3, 2, 1);
        act(x, 1, 0, 10, 31, 11, 1);
        act(x, 1, 1, 10, 28, 2, 11, 1);
        act(x, 1, 2, 10, 56, 3, 2, 11, 1);
        act(x, 2, 0, 10, 12, 1);
        act(x, 2, 1, 10, -8, 21, 2, 1);
        act(x, 2, 2, 10, -16, 3, 21, 2, 1);
        act(x, 3, 2, 10, 16 ^ 7, 31, 3, 2, 1);
        act(x, 4, 0, 10, 34, 11, 1);
        act(x, 4, 2, 10, (27 + 4 - 6) * 2 + 10, 41, 3, 2, 11, 1, 11, 1);
        act(x, 5, 0, 10, 15 ^ 5, 51, 1);
        act(x, 5, 1, 10, -((15 ^ 5) - 7), 21, 2, 51, 1);
        act(x, 5, 2, 10, -((15 ^ 5) - 7) * 2, 3, 21, 2, 51, 1);
        act(x, 1, 0, MAX, MAX * 3 + 1, 11, 1);
        act(x, 1, 0, MIN, MIN + 1, 11, 1);
        due("no such player", x.act(6, 0, 1), 0);
        due("no trace then", x.count(5), 0);
        due("no trace then, either", x.trace(0), -1);
        act(x, 0, 0, -1, -1, 1);
        due("no such act", x.act(0, 3, 1), 0);
        due("no trace then", x.trace(0), -1);
        due("act -1", x.act(0, -1, 1), 0);
        due("player -1", x.act(-1, 0, 1), 0);

        MatFlip y = new MatFlip();
        y.player(0, 0, 0, 1, 0);
        y.player(6, 3, 0, 1, 0);
        act(y, 1, 0, 10, 11, 1);
        act(y, 1, 1, 10, 11, 61, 2, 1);
        act(y, 1, 2, 10, 22 ^ 7, 31, 3, 61, 2, 1);
    }

    private static void act(MatFlip x, int player, int act, int n, long want, long... bodies) {
        String call = "act " + player + " " + act + " " + n;
        due(call, x.act(player, act, n), want);
        due(call + ": bodies", x.count(5), bodies.length);
        long[] ran = new long[bodies.length];
        for (int i = 0; i < ran.length; i++) ran[i] = x.trace(i);
        C.dueAll(call + ": trace", ran, bodies);
        due(call + ": behind the trace", x.trace(bodies.length), -1);
    }

    private static void p34Trace() {
        MatFlip x = new MatFlip();
        x.player(4, 2, 0, 1, 0);
        x.act(0, 2, 1);
        due("first", x.trace(0), 41);
        due("last", x.trace(6), 1);
        due("behind it", x.trace(7), -1);
        due("-1", x.trace(-1), -1);
        due("20", x.trace(20), -1);
        due("max", x.trace(MAX), -1);
        x.act(0, 0, 1);
        due("the latest alone", x.trace(2), -1);
        x.of(0, 7);
        due("asking runs no body", x.trace(0), 11);
    }

    private static void p35As() {
        MatFlip x = new MatFlip();
        // For each KIND those that it can be taken for, as bits.
        int[] under = {0b1, 0b11, 0b101, 0b1001, 0b10011, 0b100101};
        for (int kind = 0; kind < 6; kind++) {
            x.player(kind, 3 + kind, 0, 1, 0);
            for (int k = 0; k < 7; k++) {
                due("kind " + kind + " as " + k, x.as(kind, k), (under[kind] >> k & 1) == 1 ? 3 + kind : -6);
            }
        }
        MatFlip y = new MatFlip();
        y.player(6, 0, 0, 1, 0);
        for (int k = 0; k < 7; k++) due("told as " + k, y.as(0, k), k == 0 || k == 3 || k == 6 ? 0 : -6);
        due("as 7", y.as(0, 7), -1);
        due("as -1", y.as(0, -1), -1);
        due("nobody", y.as(1, 0), -1);
    }

    private static void p36Image() {
        MatFlip x = new MatFlip();
        due("nobody", x.image(), 0);
        x.player(0, 0, 0, 1, 0);
        due("one", x.image(), 1);
        due("it is no player", x.count(0), 1);
        x.player(0, 0, 0, 1, 0);
        due("the newest image counts", x.undo(), 1);
    }

    private static void p37Undo() {
        MatFlip x = new MatFlip();
        due("no image", x.undo(), -3);
        x.player(6, 3, 4, 5, 600);
        x.player(1, 2, 3, 4, 5);
        Checks.inn(x, "wide 9;pay 2");
        x.row(0, 1, 7);
        x.row(0, 3, 8);
        x.set(0, 1, 2);
        x.see(1, 10, 11, 10);
        x.see(1, 10, 12, 10);
        x.book(0, x.most(0));
        x.book(1, 98);
        x.go(0, 3, 11, 4);
        Checks.feed(x, "pay");
        x.act(0, 0, 1);
        long[] before = told(x);
        due("image", x.image(), 2);
        for (int round = 0; round < 2; round++) {
            x.player(2, 1, 1, 1, 1);
            Checks.feed(x, " 3");
            x.inn();
            x.row(0, 1, 1);
            x.row(0, 0, 1);
            x.row(0, 3, 1);
            for (int what = 0; what < 3; what++) x.set(0, what, 9);
            x.see(-1, 0, 0, 0);
            x.see(0, 9, 9, 9);
            x.book(-1, 0);
            if (round == 0) x.book(1, 1);
            if (round == 0) x.see(0, 9, 8, 9);
            x.go(1, 50, 0, 0);
            Checks.feed(x, "glue");
            x.act(1, 2, 5);
            due("undo", x.undo(), 2);
            C.dueAll("undone, round " + round, told(x), before);
            due("the trace is no part of it", x.trace(0), 3);
        }
        due("tape goes on", x.feed(' '), 4);
        x.feed('8');
        due("inn goes on", x.inn(), 1);
        due("pay", x.told(2), 8);
        due("player goes on", x.player(0, 0, 0, 1, 0), 2);
        due("row is again", x.row(0, 1, 0), 7);
        due("the last of the row is, too", x.row(0, 3, 0), 8);
        due("the number is again", x.act(1, 0, 5), 16);
        due("seen is again", Integer.bitCount(x.can(0)) > 0 ? 1 : 0, 1);
        due("undo twice", x.undo(), 2);
        due("row is as the image, not as then", x.row(0, 1, 0), 7);
    }

    private static long[] told(MatFlip x) {
        long[] all = new long[2 * 8 + 3 + 5 + 6];
        int at = 0;
        for (int p = 0; p < 2; p++) {
            for (int what = 0; what < 8; what++) all[at++] = x.of(p, what);
        }
        for (int what = 0; what < 3; what++) all[at++] = x.told(what);
        for (int what = 0; what < 5; what++) all[at++] = x.count(what);
        all[at++] = x.can(0);
        all[at++] = x.can(1);
        all[at++] = x.skills(1);
        all[at++] = x.looked();
        all[at++] = x.pile(0, 20, 10, 0);
        all[at] = x.most(0);
        return all;
    }

    private static void p38Count() {
        MatFlip x = with("wide 5");
        Checks.inn(x, "wide 6");
        for (int i = 0; i < 3; i++) x.player(4, 0, 0, 1, 0);
        for (int i = 0; i < 4; i++) x.see(0, 1, 1, 1);
        for (int i = 0; i < 5; i++) x.book(0, 1);
        for (int i = 0; i < 6; i++) x.feed(1);
        x.act(0, 2, 1);
        int[] due = {3, 2, 4, 5, 6, 7};
        for (int what = 0; what < 6; what++) due("count " + what, x.count(what), due[what]);
        due("count 6", x.count(6), -1);
        due("count -1", x.count(-1), -1);
    }

    private static void questionsChangeNothing() {
        MatFlip x = with("wide 5;slip 9 y=1|s>4");
        x.player(6, 3, 4, 5, 600);
        x.player(1, 2, 3, 4, 5);
        x.see(0, 10, 11, 10);
        x.book(0, 10);
        long[] before = told(x);
        x.plan(0, 3, 0);
        x.first(1, 3);
        x.more(0, 1, 6, 0);
        x.record(0, 20);
        x.raise(0, 1, 20, 8, 0, 0);
        x.wager(0, 1, 5);
        x.glass(0, 0);
        x.stuck(0, 99);
        x.title(-1);
        x.order(0);
        x.skills(0);
        C.dueAll("as before", told(x), before);
    }
}
