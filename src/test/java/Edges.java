import java.nio.file.Path;
import java.util.function.Supplier;
import java.util.function.ToLongFunction;

/** What the tests of the boundary cases share: each is named after a promise and the words of the document that it holds. */
abstract class Edges {
    static final long NO = Long.MIN_VALUE;
    static final int MIN = Integer.MIN_VALUE, MAX = Integer.MAX_VALUE;
    static final int NONE = -1, BAD = -2, STATE = -3, FULL = -4, NOWHERE = -5;
    /** No players of Whole.rich(). */
    static final int[] NOBODY = {-1, 5, 6, MIN, MAX};
    static final int[] NO_MATS = {0, -1, 100, MIN, MAX}, NO_FORCE = {-1, 21, MIN, MAX}, NO_DRAW = {-1, 10, MIN, MAX};
    static final int[] NO_PART = {-1, 2, MIN, MAX};

    private static final Checks C = new Checks("EdgesTest");
    private static final Sentences SENTENCES = new Sentences(Path.of("../shared/DOC.md"));
    private static final long[] RICH = Whole.told(Whole.rich());
    private static String name = "";

    static void holds(int promise, String words, Runnable test) {
        name = "Promise " + promise + " \"" + words + "\"";
        due("the document says so", SENTENCES.name(promise, words) ? 1 : 0, 1);
        int before = C.asked();
        test.run();
        due("something is asked", C.asked() > before ? 1 : 0, 1);
    }

    static void end() {
        name = "";
        for (String words : SENTENCES.unnamed()) due("no test is named after: " + words, 0, 1);
        C.end();
    }

    static void due(String call, long got, long want) {
        C.due(name + ": " + call, got, want);
    }

    static void dueAll(String calls, long[] got, long... want) {
        C.dueAll(name + ": " + calls, got, want);
    }

    static MatFlip with(String inn) {
        MatFlip x = new MatFlip();
        due("inn " + inn, Checks.inn(x, inn), 0);
        return x;
    }

    /** One player, of KIND 0 and v 0. */
    static MatFlip one(int skill, int hand, int purse) {
        MatFlip x = new MatFlip();
        x.player(0, 0, skill, hand, purse);
        return x;
    }

    static MatFlip one(String inn, int skill, int hand, int purse) {
        MatFlip x = with(inn);
        x.player(0, 0, skill, hand, purse);
        return x;
    }

    static int[] out(int least, int greatest) {
        return new int[] {least - 1, greatest + 1, MIN, MAX};
    }

    /** The call answers that, and leaves all in Whole.rich() as it was. */
    static void stays(String call, ToLongFunction<MatFlip> ask, long want) {
        MatFlip x = Whole.rich();
        due(call, ask.applyAsLong(x), want);
        dueAll(call + " changes nothing", Whole.told(x), RICH);
    }

    static void staysIn(Supplier<MatFlip> world, String call, ToLongFunction<MatFlip> ask, long want) {
        MatFlip x = world.get();
        due(call, ask.applyAsLong(x), want);
        dueAll(call + " changes nothing", Whole.told(x), Whole.told(world.get()));
    }

    /** A question that is answered, whatever it is, leaves all as it was. */
    static void asks(String call, ToLongFunction<MatFlip> ask) {
        MatFlip x = Whole.rich();
        long first = ask.applyAsLong(x);
        due(call + " is no refusal", first == NO || first < 0 && first >= FULL || first <= -1000 ? 1 : 0, 0);
        due(call + " again", ask.applyAsLong(x), first);
        dueAll(call + " changes nothing", Whole.told(x), RICH);
    }
}
