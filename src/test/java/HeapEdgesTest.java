/** Edges of promises 12 to 16 and of ==== 4.: heaps, layers, moves and mixes. */
public final class HeapEdgesTest {
    public static void main(String[] args) {
        heapsOfTons();
        tonsOfNone();
        heapsOfLayers();
        heapsOfLayer();
        numbersOfLayer();
        whatsOfLayer();
        heapsOfMove();
        bothAreOne();
        tonsOfMove();
        lessThanThat();
        moreThanFortyLayers();
        fortyLayersMoved();
        partsKeepTheRest();
        topmostIsLowestThere();
        heapsOfMix();
        layersThereWere();
        oneAloneStays();
        meansOfMixes();
        costOfMixes();
        costAsItCame();
        Check.end();
    }

    private static void heapsOfTons() {
        Edge.holds("Promise 12", "IllegalArgumentException: no such HEAP (so below).");
        for (int heap : Edge.NO_HEAPS) {
            Edge.throwsOnly("tons(" + heap + ")", Edge.WRONG, Yards::busy, y -> y.tons(heap));
        }
        Edge.holds("Terms 4", "HEAPS 0 to 5");
        int[] due = {6, 0, 0, 3, 9, 0};
        for (int heap = 0; heap <= 5; heap++) {
            Check.is("tons(" + heap + ")", Yards.busy().tons(heap), due[heap]);
        }
    }

    private static void tonsOfNone() {
        Edge.holds("Promise 12", "How many TONS a HEAP has (0: none was made).");
        ScrapYard yard = Check.openYard(1, 1);
        Check.is("none was made", yard.tons(5), 0);
        yard.load(0, 0, 5, 50);
        yard.load(0, 0, 5, 1);
        Check.is("51 tons", yard.tons(5), 51);
        yard.move(5, 0, 50);
        Check.is("1 ton", yard.tons(5), 1);
        yard.move(5, 0, 1);
        Check.is("all given", yard.tons(5), 0);
        Check.is("where they lie", yard.tons(0), 51);
        Check.is("one of which none was asked", yard.tons(1), 0);
    }

    private static void heapsOfLayers() {
        Edge.holds("Promise 13", "How many LAYERS it has.");
        for (int heap : Edge.NO_HEAPS) {
            Edge.throwsOnly("layers(" + heap + ")", Edge.WRONG, Yards::busy, y -> y.layers(heap));
        }
        int[] due = {1, 0, 0, 1, 2, 0};
        for (int heap = 0; heap <= 5; heap++) {
            Check.is("layers(" + heap + ")", Yards.busy().layers(heap), due[heap]);
        }
        ScrapYard yard = Check.openYard(1, 1);
        for (int i = 0; i <= 40; i++) {
            Check.is("layers(5)", yard.layers(5), i);
            yard.load(0, 0, 5, 1);
        }
        Check.is("40 at most", yard.layers(5), 40);
        yard.move(5, 4, 40);
        Check.is("all given", yard.layers(5), 0);
        Check.is("where they lie", yard.layers(4), 40);
    }

    private static void heapsOfLayer() {
        Edge.holds("Promise 14", "IllegalArgumentException: the HEAP;");
        for (int heap : Edge.NO_HEAPS) {
            Edge.throwsOnly("layer(" + heap + ", 0, 0)", Edge.WRONG, Yards::busy, y -> y.layer(heap, 0, 0));
            Edge.throwsOnly("layer(" + heap + ", 9, 13)", Edge.WRONG, Yards::busy, y -> y.layer(heap, 9, 13));
        }
    }

    private static void numbersOfLayer() {
        Edge.holds("Promise 14", "NoSuchElementException: there is no such LAYER;");
        for (int k : new int[] {-1, 2, Edge.LEAST, Edge.MOST}) {
            Edge.throwsOnly("layer(4, " + k + ", 0)", Edge.MISSING, Yards::busy, y -> y.layer(4, k, 0));
            Edge.throwsOnly("layer(4, " + k + ", 13)", Edge.MISSING, Yards::busy, y -> y.layer(4, k, 13));
            Edge.throwsOnly("layer(4, " + k + ", -1)", Edge.MISSING, Yards::busy, y -> y.layer(4, k, -1));
        }
        Edge.throwsOnly("layer(5, 0, 0) of none", Edge.MISSING, Yards::busy, y -> y.layer(5, 0, 0));
        Edge.holds("Promise 14", "Of LAYER k, from the topmost on");
        Check.is("the topmost", Yards.busy().layer(4, 0, 1), 0);
        Check.is("the lowest", Yards.busy().layer(4, 1, 1), 1);
    }

    private static void whatsOfLayer() {
        Edge.holds("Promise 14", "then IllegalArgumentException: another what.");
        for (int what : new int[] {-1, 13, 14, Edge.LEAST, Edge.MOST}) {
            Edge.throwsOnly("layer(4, 0, " + what + ")", Edge.WRONG, Yards::busy, y -> y.layer(4, 0, what));
        }
        Edge.holds("Promise 14", "0 TONS, 1 LOAD, 2 COST, 3 + 2 m LOW, 4 + 2 m HIGH.");
        ScrapYard yard = Check.openYard(1, 30);
        for (int metal = 0; metal < 5; metal++) {
            yard.span(0, metal, 50 + 2 * metal, 51 + 2 * metal);
        }
        yard.load(0, 0, 0, 9);
        yard.load(0, 0, 0, 10);
        int[] due = {10, 1, 30, 50, 51, 52, 53, 54, 55, 56, 57, 58, 59};
        for (int what = 0; what < 13; what++) {
            Check.is("layer(0, 0, " + what + ")", yard.layer(0, 0, what), due[what]);
        }
    }

    private static void heapsOfMove() {
        Edge.holds("Promise 15", "IllegalArgumentException: also");
        for (int heap : Edge.NO_HEAPS) {
            Edge.throwsOnly("move(" + heap + ", 1, 1)", Edge.WRONG, Yards::busy, y -> y.move(heap, 1, 1));
            Edge.throwsOnly("move(4, " + heap + ", 1)", Edge.WRONG, Yards::busy, y -> y.move(4, heap, 1));
            Edge.throwsOnly("move(4, " + heap + ", 99)", Edge.WRONG, Yards::busy, y -> y.move(4, heap, 99));
            Edge.throwsOnly("both are none", Edge.WRONG, Yards::busy, y -> y.move(heap, heap, 1));
        }
        ScrapYard yard = Yards.withLayers(6);
        Check.is("move(0, 5, 1)", yard.move(0, 5, 1), 1);
        Check.is("move(5, 0, 3)", yard.move(5, 0, 3), 1);
    }

    private static void bothAreOne() {
        Edge.holds("Promise 15", "both are one");
        for (int i = 0; i < 6; i++) {
            int heap = i;
            Edge.throwsOnly("move(" + heap + ", " + heap + ", 1)", Edge.WRONG, Yards::busy, y -> y.move(heap, heap, 1));
        }
        Edge.throwsOnly("of more than it has", Edge.WRONG, Yards::busy, y -> y.move(4, 4, 99));
        Edge.throwsOnly("of 40 LAYERS", Edge.WRONG, () -> Yards.withLayers(40), y -> y.move(0, 0, 1));
    }

    private static void tonsOfMove() {
        Edge.holds("Promise 15", "or TONS are below 1.");
        for (int tons : new int[] {0, -1, Edge.LEAST}) {
            Edge.throwsOnly("move(4, 1, " + tons + ")", Edge.WRONG, Yards::busy, y -> y.move(4, 1, tons));
            Edge.throwsOnly("move(5, 1, " + tons + ") of none", Edge.WRONG, Yards::busy, y -> y.move(5, 1, tons));
        }
        Check.is("1 ton", Yards.busy().move(4, 1, 1), 1);
    }

    private static void lessThanThat() {
        Edge.holds("Promise 15", "MOVED: 1; 0, doing nothing: it has less");
        for (int tons : new int[] {10, 11, Edge.MOST}) {
            Edge.leavesAll("move(4, 1, " + tons + ") of 9", 0, Yards::busy, y -> y.move(4, 1, tons));
        }
        Edge.leavesAll("move(5, 1, 1) of none", 0, Yards::busy, y -> y.move(5, 1, 1));
        ScrapYard yard = Yards.busy();
        Check.is("all 9", yard.move(4, 1, 9), 1);
        Check.is("none is left", yard.tons(4), 0);
        Check.is("where they lie", yard.tons(1), 9);
        Check.is("then it has less", yard.move(4, 1, 1), 0);
        Check.is("8 of 9", Yards.busy().move(4, 1, 8), 1);
    }

    private static void moreThanFortyLayers() {
        Edge.holds("Promise 15", "-3: there would be more than 40 LAYERS.");
        Edge.leavesAll("a part of one", -3, () -> Yards.withLayers(40), y -> y.move(0, 1, 1));
        Edge.leavesAll("one, and a part of one", -3, () -> Yards.withLayers(40), y -> y.move(0, 1, 3));
        Edge.leavesAll("all but a ton", -3, () -> Yards.withLayers(40), y -> y.move(0, 1, 13));
        Edge.leavesAll("it has less, told first", 0, () -> Yards.withLayers(40), y -> y.move(0, 1, 15));
    }

    private static void fortyLayersMoved() {
        Edge.holds("Promise 15", "-3: there would be more than 40 LAYERS.");
        ScrapYard yard = Yards.withLayers(39);
        Check.is("the 40th, a part of one", yard.move(0, 1, 1), 1);
        Check.is("count(4)", yard.count(4), 40);
        Check.is("a 41st", yard.move(2, 1, 1), -3);
        yard = Yards.withLayers(40);
        Check.is("one of 40", yard.move(0, 1, 2), 1);
        Check.is("several of 40", yard.move(1, 2, 6), 1);
        Check.is("all of a HEAP", yard.move(0, 5, 12), 1);
        Check.is("count(4)", yard.count(4), 40);
        Check.is("layers(0)", yard.layers(0), 0);
    }

    /** Heap 0: LOADS 2, 1, 0 from the topmost on, of 5, 4 and 3 tons. */
    private static ScrapYard threeLayers() {
        ScrapYard yard = Check.openYard(1, 10);
        yard.load(0, 0, 0, 3);
        yard.load(0, 0, 0, 4);
        yard.load(0, 0, 0, 5);
        return yard;
    }

    private static void lies(ScrapYard yard, int heap, int... loadsAndTons) {
        Check.is("layers(" + heap + ")", yard.layers(heap), loadsAndTons.length / 2);
        for (int k = 0; k < Math.min(yard.layers(heap), loadsAndTons.length / 2); k++) {
            Check.is("LOAD of " + k + " on " + heap, yard.layer(heap, k, 1), loadsAndTons[2 * k]);
            Check.is("TONS of " + k + " on " + heap, yard.layer(heap, k, 0), loadsAndTons[2 * k + 1]);
        }
    }

    private static void partsKeepTheRest() {
        Edge.holds("Terms 4", "GIVING some TONS: from the topmost LAYER on; one that gives a part keeps the rest.");
        int[][] left = {
            {2, 4, 1, 4, 0, 3}, {2, 3, 1, 4, 0, 3}, {2, 2, 1, 4, 0, 3}, {2, 1, 1, 4, 0, 3}, {1, 4, 0, 3}, {1, 3, 0, 3},
            {1, 2, 0, 3}, {1, 1, 0, 3}, {0, 3}, {0, 2}, {0, 1}, {},
        };
        int[][] given = {
            {2, 1}, {2, 2}, {2, 3}, {2, 4}, {2, 5}, {1, 1, 2, 5}, {1, 2, 2, 5}, {1, 3, 2, 5}, {1, 4, 2, 5},
            {0, 1, 1, 4, 2, 5}, {0, 2, 1, 4, 2, 5}, {0, 3, 1, 4, 2, 5},
        };
        for (int tons = 1; tons <= 12; tons++) {
            ScrapYard yard = threeLayers();
            Check.is("move of " + tons, yard.move(0, 3, tons), 1);
            lies(yard, 0, left[tons - 1]);
            lies(yard, 3, given[tons - 1]);
        }
    }

    private static void topmostIsLowestThere() {
        Edge.holds("Terms 4", "LAYER by LAYER as it is given (so what was topmost is lowest there)");
        ScrapYard yard = threeLayers();
        yard.load(0, 0, 1, 9);
        yard.move(0, 1, 7);
        lies(yard, 1, 1, 2, 2, 5, 3, 9);
        yard.move(1, 0, 2);
        lies(yard, 0, 1, 2, 1, 2, 0, 3);
        yard.move(0, 5, 7);
        lies(yard, 0);
        lies(yard, 5, 0, 3, 1, 2, 1, 2);
    }

    private static void heapsOfMix() {
        Edge.holds("Promise 12", "IllegalArgumentException: no such HEAP (so below).");
        for (int heap : Edge.NO_HEAPS) {
            Edge.throwsOnly("mix(" + heap + ")", Edge.WRONG, Yards::busy, y -> y.mix(heap));
        }
        Check.is("mix(0)", Yards.busy().mix(0), 1);
        Check.is("mix(5)", Yards.busy().mix(5), 0);
    }

    private static void layersThereWere() {
        Edge.holds("Promise 16", "MIXED: how many LAYERS there were.");
        for (int layers = 2; layers <= 40; layers++) {
            ScrapYard yard = Check.openYard(1, 1);
            for (int i = 0; i < layers; i++) {
                yard.load(0, 0, 3, 50);
            }
            Check.is("mix", yard.mix(3), layers);
            Check.is("then", yard.layers(3), 1);
            Check.is("TONS together", yard.layer(3, 0, 0), 50 * layers);
            Check.is("LOAD", yard.layer(3, 0, 1), -1);
        }
        Edge.leavesAll("mix of none", 0, Yards::busy, y -> y.mix(1));
    }

    private static void oneAloneStays() {
        Edge.holds("Terms 4", "(one alone stays as it is)");
        Edge.leavesAll("one of a LOAD", 1, Yards::busy, y -> y.mix(0));
        Edge.leavesAll("a mixed one", 1, Yards::busy, y -> y.mix(3));
        ScrapYard yard = Yards.busy();
        yard.mix(0);
        yard.sample(0, 0, 150, 150);
        Check.is("it is still of its LOAD", yard.layer(0, 0, 3), 150);
    }

    /** A mixed LAYER of so many tons with 1 to 1 of copper, and so many with 2 to 2. */
    private static ScrapYard mixed(int ones, int twos) {
        ScrapYard yard = Check.openYard(2, 1);
        yard.span(0, 0, 1, 1);
        yard.span(1, 0, 2, 2);
        yard.load(0, 0, 0, ones);
        yard.load(0, 1, 0, twos);
        yard.mix(0);
        return yard;
    }

    private static void meansOfMixes() {
        Edge.holds("Terms 4", "LOW: the mean of the LOWS by TONS, cut; HIGH: the mean of the HIGHS by TONS, rounded up.");
        for (int twos = 1; twos <= 50; twos += 7) {
            ScrapYard yard = mixed(50, twos);
            Check.is("LOW", yard.layer(0, 0, 3), 1);
            Check.is("HIGH", yard.layer(0, 0, 4), 2);
        }
        ScrapYard yard = Check.openYard(2, 1);
        int[][] spans = {{10, 40}, {20, 60}};
        for (int kind = 0; kind < 2; kind++) {
            yard.span(kind, 0, spans[kind][0], spans[kind][1]);
            yard.span(kind, 4, 10000 - spans[kind][1], 10000 - spans[kind][0]);
        }
        yard.load(0, 0, 0, 3);
        yard.load(0, 1, 0, 1);
        yard.mix(0);
        // 50 / 4 and 180 / 4; 39820 / 4 and 39950 / 4
        isSpan(yard, 0, 12, 45);
        isSpan(yard, 4, 9955, 9988);
        isSpan(yard, 2, 0, 10000);
        yard.load(0, 1, 0, 4);
        yard.mix(0);
        // 12 * 4 + 20 * 4 and 45 * 4 + 60 * 4, by 8
        isSpan(yard, 0, 16, 53);
        Check.is("TONS", yard.layer(0, 0, 0), 8);
    }

    private static void isSpan(ScrapYard yard, int metal, int low, int high) {
        Check.is("LOW of METAL " + metal, yard.layer(0, 0, 3 + 2 * metal), low);
        Check.is("HIGH of METAL " + metal, yard.layer(0, 0, 4 + 2 * metal), high);
    }

    private static void costOfMixes() {
        Edge.holds("Terms 4", "of a mixed one the mean, rounded up");
        costIs(4, 3, 1, 4, 1);
        costIs(4, 3, 1, 5, 1);
        costIs(4, 3, 3, 4, 1);
        costIs(4, 3, 1, 4, 3);
        costIs(3, 3, 2, 3, 5);
        costIs(18, 10, 1, 20, 4);
        costIs(0, 0, 1, 0, 1);
        costIs(1, 0, 49, 1, 1);
        costIs(99999, 99998, 50, 99999, 1);
        costIs(99999, 99999, 50, 99999, 50);
    }

    /** The COST of a mixed LAYER of two LOADS, each with its PAY and TONS. */
    private static void costIs(int due, int pay, int tons, int otherPay, int otherTons) {
        ScrapYard yard = Check.openYard(1, pay);
        yard.load(0, 0, 0, tons);
        Check.contract(yard, "else pay " + otherPay + ";", 0, 0);
        yard.load(0, 0, 0, otherTons);
        yard.mix(0);
        Check.is("COST of " + tons + " at " + pay + " and " + otherTons + " at " + otherPay, yard.layer(0, 0, 2), due);
    }

    private static void costAsItCame() {
        Edge.holds("Terms 4", "(the PAY of its LOAD as it came there; of a mixed one the mean, rounded up)");
        ScrapYard yard = Yards.withSellers(1);
        Check.contract(yard, "grade cu<1 pay 9; else pay 4;", 0, 0);
        yard.load(0, 0, 0, 4);
        yard.sample(0, 0, 0, 0);
        Check.is("PAY", yard.told(0, 5), 9);
        Check.is("COST", yard.layer(0, 0, 2), 4);
        yard.move(0, 1, 1);
        Check.is("COST of a part that is moved", yard.layer(1, 0, 2), 4);
        Check.is("COST of the rest", yard.layer(0, 0, 2), 4);
        yard.move(0, 2, 3);
        Check.is("COST of a whole one that is moved", yard.layer(2, 0, 2), 4);
        Check.is("COST of a CHARGE", yard.best(4), 16);
        yard.load(0, 0, 2, 1);
        yard.mix(2);
        Check.is("COST of both, mixed", yard.layer(2, 0, 2), 4);
    }
}
