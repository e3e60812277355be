import java.util.List;
import java.util.NoSuchElementException;

/** What the tests of edges share: the sentence that a test holds, and refused calls that change nothing. */
final class Edge {
    static final int LEAST = Integer.MIN_VALUE;
    static final int MOST = Integer.MAX_VALUE;
    static final Class<NoSuchElementException> MISSING = NoSuchElementException.class;
    static final Class<IllegalArgumentException> WRONG = IllegalArgumentException.class;
    static final Class<IllegalStateException> FULL = IllegalStateException.class;

    static final int[] NO_METALS = {-1, 5, LEAST, MOST};
    static final int[] NO_HEAPS = {-1, 6, LEAST, MOST};
    static final int[] NO_CHARGE_TONS = {0, 21, -1, LEAST, MOST};
    static final int[][] SPANS = {
        {0, 0}, {0, 1}, {1, 1}, {4999, 5000}, {5000, 5000}, {9999, 10000}, {10000, 10000}, {0, 10000},
    };
    static final int[][] NO_SPANS = {
        {-1, 0}, {-1, -1}, {-1, 10000}, {0, -1}, {0, 10001}, {10000, 10001}, {10001, 10001}, {10001, 10000},
        {1, 0}, {10000, 9999}, {5001, 5000}, {LEAST, 0}, {0, MOST}, {LEAST, MOST}, {MOST, LEAST}, {MOST, MOST},
    };

    private Edge() {
    }

    interface Made {
        ScrapYard yard();
    }

    interface Ask {
        long of(ScrapYard yard);
    }

    /** Says which sentence the checks from here on hold. */
    static void holds(String where, String words) {
        Check.of(where + " '" + words + "': ");
        if (!Doc.says(where, words)) {
            Check.tell("the document does not say this");
        }
    }

    /** The call answers so, and leaves all as it was. */
    static void leavesAll(String call, long due, Made made, Ask ask) {
        Check.is(call, ask.of(made.yard()), due);
        isSame(call, made, ask);
    }

    /** The call throws so, and leaves all as it was. */
    static void throwsOnly(String call, Class<? extends RuntimeException> due, Made made, Ask ask) {
        Check.isThrown(call, due, () -> ask.of(made.yard()));
        isSame(call, made, ask);
    }

    private static void isSame(String call, Made made, Ask ask) {
        List<String> before = State.of(made);
        List<String> after = State.of(() -> after(made, ask));
        for (int i = 0; i < before.size() && i < after.size(); i++) {
            if (!before.get(i).equals(after.get(i))) {
                Check.tell("after " + call + ": " + after.get(i) + ", ahead of it: " + before.get(i));
                return;
            }
        }
        Check.is("what can be asked after " + call, after.size(), before.size());
    }

    private static ScrapYard after(Made made, Ask ask) {
        ScrapYard yard = made.yard();
        answer(yard, ask);
        return yard;
    }

    static String answer(ScrapYard yard, Ask ask) {
        try {
            return Long.toString(ask.of(yard));
        } catch (RuntimeException thrown) {
            return thrown.getClass().getSimpleName();
        }
    }
}
