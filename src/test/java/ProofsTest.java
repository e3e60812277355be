import java.util.NoSuchElementException;

/** Promises 21 to 23, and 8: portions, proofs, and what is usual put right by them. */
public final class ProofsTest {
    public static void main(String[] args) {
        onePortion();
        twoPortions();
        judgedByWhatWasAhead();
        falseProofs();
        putRightTwice();
        putRightStays();
        mixedPortions();
        wrongCalls();
        Check.end();
    }

    private static void spanIs(String of, int low, int high, int dueLow, int dueHigh) {
        Check.is("LOW of " + of, low, dueLow);
        Check.is("HIGH of " + of, high, dueHigh);
    }

    private static void portionIs(ScrapYard yard, int k, int metal, int low, int high) {
        spanIs("portion " + k, yard.portion(0, k, 2 + 2 * metal), yard.portion(0, k, 3 + 2 * metal), low, high);
    }

    private static void usualIs(ScrapYard yard, int kind, int metal, int low, int high) {
        spanIs("kind " + kind, yard.usual(0, kind, metal, 0), yard.usual(0, kind, metal, 1), low, high);
    }

    /** Melt 0 has 3 tons of kind 0, 2 of kind 1, with SPANS of METAL 4. */
    private static ScrapYard twoKinds(int low0, int high0, int low1, int high1) {
        ScrapYard yard = Check.openYard(2, 10);
        yard.span(0, 4, low0, high0);
        yard.span(1, 4, low1, high1);
        yard.load(0, 0, 0, 3);
        yard.load(0, 1, 1, 2);
        yard.melt(5);
        return yard;
    }

    private static void onePortion() {
        ScrapYard yard = Check.openYard(1, 10);
        yard.seller();
        yard.span(0, 2, 100, 200);
        yard.load(0, 0, 0, 3);
        yard.melt(2);
        Check.is("prove", yard.prove(0, 2, 151, 301), 1);
        portionIs(yard, 0, 2, 151, 200);
        portionIs(yard, 0, 1, 0, 10000);
        usualIs(yard, 0, 2, 112, 200);
        Check.is("the other SELLER's", yard.usual(1, 0, 2, 0), 100);
        Check.is("the LOAD stays", yard.told(0, 10), 100);
        Check.is("the LAYER stays", yard.layer(0, 0, 7), 100);
        Check.is("prove again", yard.prove(0, 2, 0, 161), 1);
        portionIs(yard, 0, 2, 151, 161);
        usualIs(yard, 0, 2, 121, 191);
        Check.is("FALSE", yard.prove(0, 2, 162, 300), 0);
        Check.is("FALSE", yard.prove(0, 2, 0, 150), 0);
        portionIs(yard, 0, 2, 151, 161);
        usualIs(yard, 0, 2, 121, 191);
    }

    private static void twoPortions() {
        ScrapYard yard = twoKinds(100, 400, 50, 300);
        Check.is("prove", yard.prove(0, 4, 211, 213), 1);
        // LOWS: (1055 - 600) / 3 up, (1055 - 1200) / 2; HIGHS: (1065 - 100) / 3, (1065 - 300) / 2
        portionIs(yard, 0, 4, 152, 321);
        portionIs(yard, 1, 4, 50, 300);
        usualIs(yard, 0, 4, 113, 381);
        usualIs(yard, 1, 4, 50, 300);
    }

    private static void judgedByWhatWasAhead() {
        ScrapYard yard = twoKinds(0, 1000, 0, 1000);
        Check.is("prove", yard.prove(0, 4, 900, 1000), 1);
        portionIs(yard, 0, 4, 834, 1000);
        portionIs(yard, 1, 4, 750, 1000);
        yard = twoKinds(0, 1000, 0, 1000);
        Check.is("prove", yard.prove(0, 4, 0, 100), 1);
        portionIs(yard, 0, 4, 0, 166);
        portionIs(yard, 1, 4, 0, 250);
    }

    private static void falseProofs() {
        ScrapYard yard = twoKinds(100, 400, 50, 300);
        Check.is("above all HIGHS", yard.prove(0, 4, 361, 400), 0);
        Check.is("below all LOWS", yard.prove(0, 4, 0, 79), 0);
        Check.is("far below", yard.prove(0, 4, 0, 0), 0);
        portionIs(yard, 0, 4, 100, 400);
        portionIs(yard, 1, 4, 50, 300);
        usualIs(yard, 0, 4, 100, 400);
        yard.span(0, 4, 7, 8);
        usualIs(yard, 0, 4, 7, 8);
        Check.is("just all HIGHS", yard.prove(0, 4, 360, 400), 1);
        portionIs(yard, 0, 4, 400, 400);
        portionIs(yard, 1, 4, 300, 300);
        yard = twoKinds(100, 400, 50, 300);
        Check.is("just all LOWS", yard.prove(0, 4, 0, 80), 1);
        portionIs(yard, 0, 4, 100, 100);
        yard = twoKinds(1, 1, 0, 1);
        Check.is("no whole part between", yard.prove(0, 4, 0, 0), 0);
    }

    private static void putRightTwice() {
        ScrapYard yard = twoKinds(0, 1000, 0, 0);
        yard.load(0, 0, 0, 1);
        yard.load(0, 0, 1, 1);
        yard.melt(2);
        Check.is("prove", yard.prove(1, 4, 500, 500), 1);
        Check.is("HIGH", yard.portion(1, 0, 11), 1000);
        Check.is("prove", yard.prove(1, 4, 900, 900), 1);
        Check.is("LOW", yard.portion(1, 0, 10), 800);
        // twice 0, then 3 * 0 + 800 by 4, then 3 * 200 + 800 by 4
        usualIs(yard, 0, 4, 350, 1000);
    }

    private static void putRightStays() {
        ScrapYard yard = twoKinds(100, 400, 50, 300);
        yard.prove(0, 4, 0, 10000);
        yard.span(0, 4, 5, 6);
        yard.span(0, 3, 5, 6);
        usualIs(yard, 0, 4, 100, 400);
        usualIs(yard, 0, 3, 5, 6);
        yard.load(0, 0, 3, 1);
        Check.is("LOW of a new LOAD", yard.told(2, 14), 100);
        Check.is("LOW of its other METAL", yard.told(2, 12), 5);
    }

    private static void mixedPortions() {
        ScrapYard yard = Check.openYard(1, 10);
        yard.load(0, 0, 0, 3);
        yard.load(0, 0, 0, 3);
        yard.mix(0);
        yard.melt(4);
        Check.is("portions", yard.portions(0), 1);
        Check.is("LOAD", yard.portion(0, 0, 1), -1);
        Check.is("prove", yard.prove(0, 0, 5, 6), 1);
        portionIs(yard, 0, 0, 5, 6);
        usualIs(yard, 0, 0, 0, 10000);
        yard.span(0, 0, 1, 2);
        usualIs(yard, 0, 0, 1, 2);
    }

    private static void wrongCalls() {
        ScrapYard yard = twoKinds(100, 400, 50, 300);
        Class<NoSuchElementException> none = NoSuchElementException.class;
        Class<IllegalArgumentException> wrong = IllegalArgumentException.class;
        Check.isThrown("portions(1)", none, () -> yard.portions(1));
        Check.isThrown("portions(-1)", none, () -> yard.portions(-1));
        Check.isThrown("portion: MELT 1", none, () -> yard.portion(1, 0, 12));
        Check.isThrown("portion: MELT -1", none, () -> yard.portion(-1, 0, 0));
        Check.isThrown("portion 2", none, () -> yard.portion(0, 2, 12));
        Check.isThrown("portion -1", none, () -> yard.portion(0, -1, 0));
        Check.isThrown("portion: what 12", wrong, () -> yard.portion(0, 0, 12));
        Check.isThrown("portion: what -1", wrong, () -> yard.portion(0, 0, -1));
        Check.isThrown("prove: MELT 1", none, () -> yard.prove(1, 5, 2, 1));
        Check.isThrown("prove: MELT -1", none, () -> yard.prove(-1, 0, 0, 1));
        Check.isThrown("prove: METAL 5", wrong, () -> yard.prove(0, 5, 0, 1));
        Check.isThrown("prove: METAL -1", wrong, () -> yard.prove(0, -1, 0, 1));
        Check.isThrown("prove: LOW above HIGH", wrong, () -> yard.prove(0, 0, 2, 1));
        Check.isThrown("prove: LOW -1", wrong, () -> yard.prove(0, 0, -1, 1));
        Check.isThrown("prove: HIGH 10001", wrong, () -> yard.prove(0, 0, 0, 10001));
    }
}
