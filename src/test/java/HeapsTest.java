import java.util.NoSuchElementException;

/** Promises 12 to 16: heaps of layers, moved and mixed. */
public final class HeapsTest {
    public static void main(String[] args) {
        asTheyLie();
        moves();
        noMoves();
        fullOfLayers();
        mixes();
        wrongCalls();
        Check.end();
    }

    /** Heap 0 has loads 0, 1, 2 of 3, 4, 5 tons, the last one topmost. */
    private static ScrapYard threeLayers() {
        ScrapYard yard = Check.openYard(1, 10);
        yard.load(0, 0, 0, 3);
        yard.load(0, 0, 0, 4);
        yard.load(0, 0, 0, 5);
        return yard;
    }

    private static void layersAre(ScrapYard yard, int heap, int... loadsAndTons) {
        Check.is("layers(" + heap + ")", yard.layers(heap), loadsAndTons.length / 2);
        int all = 0;
        for (int k = 0; k < loadsAndTons.length / 2; k++) {
            Check.is("LOAD of layer " + k, yard.layer(heap, k, 1), loadsAndTons[2 * k]);
            Check.is("TONS of layer " + k, yard.layer(heap, k, 0), loadsAndTons[2 * k + 1]);
            all += loadsAndTons[2 * k + 1];
        }
        Check.is("tons(" + heap + ")", yard.tons(heap), all);
    }

    private static void asTheyLie() {
        ScrapYard yard = threeLayers();
        layersAre(yard, 0, 2, 5, 1, 4, 0, 3);
        layersAre(yard, 1);
        Check.is("COST", yard.layer(0, 0, 2), 10);
    }

    private static void moves() {
        ScrapYard yard = threeLayers();
        Check.is("move", yard.move(0, 1, 7), 1);
        layersAre(yard, 0, 1, 2, 0, 3);
        layersAre(yard, 1, 1, 2, 2, 5);
        Check.is("COST", yard.layer(1, 0, 2), 10);
        Check.is("move a whole LAYER", yard.move(1, 0, 2), 1);
        layersAre(yard, 0, 1, 2, 1, 2, 0, 3);
        layersAre(yard, 1, 2, 5);
        Check.is("move all", yard.move(0, 5, 7), 1);
        layersAre(yard, 0);
        layersAre(yard, 5, 0, 3, 1, 2, 1, 2);
    }

    private static void noMoves() {
        ScrapYard yard = threeLayers();
        Check.is("it has less", yard.move(0, 1, 13), 0);
        Check.is("it has none", yard.move(2, 1, 1), 0);
        Check.is("far less", yard.move(0, 1, Integer.MAX_VALUE), 0);
        layersAre(yard, 0, 2, 5, 1, 4, 0, 3);
        layersAre(yard, 1);
    }

    private static void fullOfLayers() {
        ScrapYard yard = Check.openYard(1, 10);
        for (int i = 0; i < 40; i++) {
            yard.load(0, 0, i < 20 ? 0 : 1, 2);
        }
        Check.is("a 41st LAYER", yard.move(0, 1, 3), -3);
        Check.is("a 41st LAYER of one ton", yard.move(0, 2, 1), -3);
        Check.is("it has less, ahead of that", yard.move(0, 2, 41), 0);
        Check.is("nothing done", yard.tons(0) * 100 + yard.layers(0), 4020);
        Check.is("whole LAYERS", yard.move(0, 1, 4), 1);
        Check.is("all", yard.move(0, 1, 36), 1);
        Check.is("count(4)", yard.count(4), 40);
        yard.mix(1);
        Check.is("count(4)", yard.count(4), 1);
        for (int i = 0; i < 39; i++) {
            yard.load(0, 0, 2, 1 + i % 3);
        }
        Check.is("topmost in part", yard.move(2, 3, 2), -3);
        Check.is("topmost whole", yard.move(2, 3, 3), 1);
        Check.is("two whole, the third in part", yard.move(2, 3, 4), -3);
    }

    private static void mixes() {
        ScrapYard yard = Check.openYard(2, 10);
        yard.span(0, 0, 1, 1);
        yard.span(0, 4, 5, 9);
        yard.span(1, 0, 2, 2);
        yard.load(0, 0, 0, 2);
        Check.contract(yard, "else pay 11;", 0, 0);
        Check.is("mix of none", yard.mix(3), 0);
        Check.is("mix of one", yard.mix(0), 1);
        Check.is("one alone stays", yard.layer(0, 0, 1), 0);
        yard.load(0, 1, 0, 1);
        Check.is("mix of two", yard.mix(0), 2);
        int[] due = {3, -1, 11, 1, 2, 0, 10000, 0, 10000, 0, 10000, 3, 3340};
        for (int what = 0; what < due.length; what++) {
            Check.is("mixed: layer(0, 0, " + what + ")", yard.layer(0, 0, what), due[what]);
        }
        Check.is("layers", yard.layers(0), 1);
        Check.is("tons", yard.tons(0), 3);
        yard.load(0, 1, 1, 20);
        yard.move(1, 2, 5);
        yard.move(1, 2, 5);
        Check.is("COST as it is moved", yard.layer(2, 0, 2), 11);
        Check.is("mix of one LOAD's", yard.mix(2), 2);
        Check.is("COST, a whole mean", yard.layer(2, 0, 2), 11);
        Check.is("LOAD", yard.layer(2, 0, 1), -1);
        Check.is("LOW", yard.layer(2, 0, 3), 2);
    }

    private static void wrongCalls() {
        ScrapYard yard = threeLayers();
        Class<IllegalArgumentException> wrong = IllegalArgumentException.class;
        Class<NoSuchElementException> none = NoSuchElementException.class;
        int[] noHeaps = {-1, 6, Integer.MIN_VALUE, Integer.MAX_VALUE};
        for (int heap : noHeaps) {
            Check.isThrown("tons", wrong, () -> yard.tons(heap));
            Check.isThrown("layers", wrong, () -> yard.layers(heap));
            Check.isThrown("layer", wrong, () -> yard.layer(heap, 9, 0));
            Check.isThrown("move from", wrong, () -> yard.move(heap, 0, 1));
            Check.isThrown("move to", wrong, () -> yard.move(0, heap, 1));
            Check.isThrown("mix", wrong, () -> yard.mix(heap));
        }
        Check.isThrown("move to itself", wrong, () -> yard.move(0, 0, 99));
        Check.isThrown("move 0 tons", wrong, () -> yard.move(0, 1, 0));
        Check.isThrown("move -1 tons", wrong, () -> yard.move(0, 1, -1));
        Check.isThrown("layer 3", none, () -> yard.layer(0, 3, 13));
        Check.isThrown("layer -1", none, () -> yard.layer(0, -1, -1));
        Check.isThrown("layer of none", none, () -> yard.layer(1, 0, 0));
        Check.isThrown("what -1", wrong, () -> yard.layer(0, 0, -1));
        Check.isThrown("what 13", wrong, () -> yard.layer(0, 0, 13));
    }
}
