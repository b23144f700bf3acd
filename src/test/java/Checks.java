/** Counts the answers that are not the ones that are due, and prints them. */
final class Checks {
    private final String title;
    private int asked, wrong;

    Checks(String title) {
        this.title = title;
    }

    void due(String call, long got, long want) {
        asked++;
        if (got == want) return;
        wrong++;
        if (wrong <= 40) System.out.println(title + ": " + call + " answered " + got + ", due is " + want);
    }

    /** Several answers at once, in their order. */
    void dueAll(String calls, long[] got, long... want) {
        due(calls + ": how many", got.length, want.length);
        for (int i = 0; i < Math.min(got.length, want.length); i++) due(calls + " #" + i, got[i], want[i]);
    }

    int asked() {
        return asked;
    }

    void end() {
        System.out.println(title + ": " + asked + " answers, " + wrong + " not as due");
        if (wrong != 0) System.exit(1);
    }

    static void feed(MatFlip x, String signs) {
        for (int i = 0; i < signs.length(); i++) x.feed(signs.charAt(i));
    }

    static int inn(MatFlip x, String signs) {
        feed(x, signs);
        return x.inn();
    }
}
