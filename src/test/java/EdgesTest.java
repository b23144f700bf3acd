/**
 * Each sentence of the document that names a boundary case has a test here, named after the promise and the words;
 * words of the promises or of "Terms" that no test is named after are a fault, too.
 */
public final class EdgesTest extends Edges {
    private EdgesTest() {
    }

    public static void main(String[] args) {
        refusals();
        EdgesOfInns.all();
        EdgesOfPlayers.all();
        EdgesOfTries.all();
        EdgesOfOdds.all();
        EdgesOfPairs.all();
        EdgesOfOrders.all();
        EdgesOfBooks.all();
        EdgesOfActs.all();
        end();
    }

    private static void refusals() {
        holds(7, "REFUSALS, of several the first one told:", () -> {
            stays("no player, no k, bad n", x -> x.row(9, 9, 99), NONE);
            stays("no k, bad n, another kind", x -> x.row(1, 9, 99), NONE);
            stays("bad n, another kind", x -> x.row(1, 0, 99), BAD);
            stays("another kind", x -> x.row(1, 0, 9), STATE);
            staysIn(Whole::full, "no kind, bad v, full", x -> x.player(9, 99, 0, 1, 0), NONE);
            staysIn(Whole::full, "bad v, full", x -> x.player(0, 99, 0, 1, 0), BAD);
            staysIn(Whole::full, "full", x -> x.player(0, 0, 0, 1, 0), FULL);
        });
        holds(5, "NONE there is no such PLAYER, KIND, what, part, k, i;", () -> {
            stays("player", x -> x.of(9, 0), NONE);
            stays("kind", x -> x.player(9, 0, 0, 1, 0), NONE);
            stays("what", x -> x.of(0, 9), NONE);
            stays("part", x -> x.mean(0, 1, 0, 9), NO);
            stays("k", x -> x.as(0, 9), NONE);
            stays("i", x -> x.can(9), NONE);
        });
        holds(11, "They change nothing.", () -> {
            stays("none", x -> x.go(9, 1, 0, 0), NONE);
            stays("bad", x -> x.go(0, 1, 0, 99), BAD);
            staysIn(MatFlip::new, "state", MatFlip::undo, STATE);
            staysIn(Whole::full, "full", x -> x.feed('p'), FULL);
            // Each refusal once, one behind the other.
            MatFlip x = Whole.rich();
            x.feed(-1);
            x.player(7, 0, 0, 1, 0);
            x.set(0, 0, 21);
            x.row(1, 0, 0);
            x.go(0, 0, 0, 0);
            x.see(0, 0, 0, 0);
            x.book(0, 100);
            dueAll("all of them", Whole.told(x), Whole.told(Whole.rich()));
        });
    }
}
