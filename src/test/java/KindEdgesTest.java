/** Edges of promises 1 to 4 and 8, and of the terms ahead of ==== 2., sentence by sentence. */
public final class KindEdgesTest {
    public static void main(String[] args) {
        newYardIsEmpty();
        newYardIsItsOwn();
        firstDay();
        lastCall();
        tenKinds();
        spansAtFirst();
        kindsOfSpan();
        metalsOfSpan();
        spansTaken();
        spansRefused();
        spanLeavesWhatIsThere();
        eightSellers();
        sellersOfUsual();
        kindsOfUsual();
        metalsAndSidesOfUsual();
        usualOfNothingPutRight();
        Check.end();
    }

    private static void newYardIsEmpty() {
        Edge.holds("Promise 1", "No KINDS, SELLERS, CONTRACTS, LOADS, HEAPS, MELTS; DAY 0; an empty TAPE.");
        isEmpty(new ScrapYard());
        ScrapYard yard = new ScrapYard();
        Check.isThrown("span(0, ..)", Edge.MISSING, () -> yard.span(0, 0, 0, 0));
        Check.isThrown("money(0)", Edge.MISSING, () -> yard.money(0));
        Check.isThrown("force(0, 0)", Edge.MISSING, () -> yard.force(0, 0));
        Check.isThrown("contract(0, 0, 0)", Edge.MISSING, () -> yard.contract(0, 0, 0));
        Check.isThrown("told(0, 0)", Edge.MISSING, () -> yard.told(0, 0));
        Check.isThrown("sample(0, ..)", Edge.MISSING, () -> yard.sample(0, 0, 0, 0));
        Check.isThrown("layer(0, 0, 0)", Edge.MISSING, () -> yard.layer(0, 0, 0));
        Check.isThrown("portions(0)", Edge.MISSING, () -> yard.portions(0));
        Check.isThrown("portion(0, 0, 0)", Edge.MISSING, () -> yard.portion(0, 0, 0));
        Check.isThrown("prove(0, ..)", Edge.MISSING, () -> yard.prove(0, 0, 0, 0));
        Check.is("move of nothing", yard.move(0, 1, 1), 0);
        Check.is("mix of nothing", yard.mix(0), 0);
        Check.is("melt of nothing", yard.melt(1), -1);
        Check.is("seller()", yard.seller(), 0);
        Check.isThrown("contract(1, 0, 0)", Edge.WRONG, () -> yard.contract(1, 0, 0));
        Check.is("contract(0, 0, 0)", yard.contract(0, 0, 0), 0);
    }

    private static void isEmpty(ScrapYard yard) {
        for (int what = 0; what <= 8; what++) {
            Check.is("count(" + what + ")", yard.count(what), 0);
        }
        for (int heap = 0; heap < 6; heap++) {
            Check.is("tons", yard.tons(heap), 0);
            Check.is("layers", yard.layers(heap), 0);
            Check.is("charge", yard.charge(1, heap), -1);
        }
        Check.is("best(1)", yard.best(1), -1);
        Check.is("day(0)", yard.day(0), 0);
    }

    private static void newYardIsItsOwn() {
        Edge.holds("Promise 1", "No KINDS, SELLERS, CONTRACTS, LOADS, HEAPS, MELTS; DAY 0; an empty TAPE.");
        ScrapYard other = Yards.busy();
        isEmpty(new ScrapYard());
        ScrapYard again = Yards.busy();
        Check.is("the other's LOADS", other.count(3), 6);
        Check.is("as many again", again.count(3), 6);
    }

    private static void firstDay() {
        Edge.holds("Terms 1", "The DAY is 0 at first.");
        ScrapYard yard = Check.openYard(1, 1);
        yard.load(0, 0, 0, 1);
        Check.is("the DAY a LOAD came", yard.told(0, 3), 0);
        Check.is("day(0)", yard.day(0), 0);
    }

    /** 'An object is used for at most 512 calls after it has been made': the last of them is answered too. */
    private static void lastCall() {
        Check.of("512 calls: ");
        ScrapYard yard = new ScrapYard();
        for (int call = 1; call <= 511; call++) {
            Check.is("call " + call, call % 2 == 0 ? yard.day(20) : yard.day(19), call / 2 * 39 + call % 2 * 19);
        }
        Check.is("the 512th", yard.day(1), 511 / 2 * 39 + 19 + 1);
    }

    private static void tenKinds() {
        Edge.holds("Promise 2", "A KIND: its number; -1: there are 10.");
        ScrapYard yard = new ScrapYard();
        for (int i = 0; i < 10; i++) {
            Check.is("kind()", yard.kind(), i);
            Check.is("count(0)", yard.count(0), i + 1);
        }
        Edge.leavesAll("an 11th kind()", -1, () -> Yards.withKinds(10), y -> y.kind());
        Check.is("again", yard.kind(), -1);
        Check.is("and again", yard.kind(), -1);
        Check.is("span of the tenth", yard.span(9, 0, 1, 1), 1);
    }

    private static void spansAtFirst() {
        Edge.holds("Terms 1", "KINDS (10 at most) have a SPAN of each METAL: 0 to 10,000 at first.");
        ScrapYard yard = new ScrapYard();
        yard.seller();
        for (int kind = 0; kind < 10; kind++) {
            yard.kind();
            for (int metal = 0; metal < 5; metal++) {
                Check.is("LOW", yard.usual(0, kind, metal, 0), 0);
                Check.is("HIGH", yard.usual(0, kind, metal, 1), 10000);
            }
            yard.span(kind, kind % 5, 7, 8);
        }
    }

    private static void kindsOfSpan() {
        Edge.holds("Promise 3", "NoSuchElementException: no such KIND");
        for (int kind : new int[] {-1, 3, Edge.LEAST, Edge.MOST}) {
            Edge.throwsOnly("span(" + kind + ", 0, 1, 2)", Edge.MISSING, Yards::busy, y -> y.span(kind, 0, 1, 2));
            Edge.throwsOnly("with nothing right", Edge.MISSING, Yards::busy, y -> y.span(kind, 5, 2, 1));
        }
        Edge.throwsOnly("span(0, ..) of none", Edge.MISSING, ScrapYard::new, y -> y.span(0, 0, 1, 2));
        Check.is("the first", Yards.busy().span(0, 0, 1, 2), 1);
        Check.is("the last", Yards.busy().span(2, 0, 1, 2), 1);
    }

    private static void metalsOfSpan() {
        Edge.holds("Promise 3", "IllegalArgumentException: no such METAL");
        for (int metal : Edge.NO_METALS) {
            Edge.throwsOnly("span(0, " + metal + ", 1, 2)", Edge.WRONG, Yards::busy, y -> y.span(0, metal, 1, 2));
        }
        Edge.holds("Terms 1", "METALS 0 to 4");
        Check.is("METAL 0", Yards.busy().span(0, 0, 1, 2), 1);
        Check.is("METAL 4", Yards.busy().span(0, 4, 1, 2), 1);
    }

    private static void spansTaken() {
        Edge.holds("Terms 1", "a PART of one: 0 to 10,000 of ten thousand. A SPAN: a LOW and a HIGH PART, LOW not above HIGH.");
        ScrapYard yard = Check.openYard(1, 1);
        for (int metal = 0; metal < 5; metal++) {
            for (int[] span : Edge.SPANS) {
                Check.is("span", yard.span(0, metal, span[0], span[1]), 1);
                Check.is("LOW", yard.usual(0, 0, metal, 0), span[0]);
                Check.is("HIGH", yard.usual(0, 0, metal, 1), span[1]);
            }
        }
    }

    private static void spansRefused() {
        Edge.holds("Promise 3", "or no SPAN (so below)");
        for (int[] span : Edge.NO_SPANS) {
            Edge.throwsOnly("span(0, 4, " + span[0] + ", " + span[1] + ")", Edge.WRONG, Yards::busy,
                    y -> y.span(0, 4, span[0], span[1]));
        }
    }

    private static void spanLeavesWhatIsThere() {
        Edge.holds("Promise 3", "(LOADS and USUAL SPANS that were put right stay)");
        ScrapYard yard = Check.openYard(1, 1);
        yard.seller();
        yard.span(0, 0, 100, 200);
        yard.span(0, 1, 100, 200);
        yard.load(0, 0, 0, 5);
        yard.melt(2);
        yard.prove(0, 0, 140, 160);
        Check.is("span", yard.span(0, 0, 300, 400), 1);
        Check.is("span", yard.span(0, 1, 300, 400), 1);
        Check.is("put right: LOW", yard.usual(0, 0, 0, 0), 110);
        Check.is("put right: HIGH", yard.usual(0, 0, 0, 1), 190);
        Check.is("another METAL: LOW", yard.usual(0, 0, 1, 0), 300);
        Check.is("another METAL: HIGH", yard.usual(0, 0, 1, 1), 400);
        Check.is("another SELLER: LOW", yard.usual(1, 0, 0, 0), 300);
        Check.is("the LOAD: LOW", yard.told(0, 6), 100);
        Check.is("the LOAD: HIGH", yard.told(0, 7), 200);
        Check.is("its LAYER: LOW", yard.layer(0, 0, 3), 100);
        Check.is("its PORTION: LOW", yard.portion(0, 0, 2), 140);
        Check.is("its PORTION: HIGH of another METAL", yard.portion(0, 0, 5), 200);
    }

    private static void eightSellers() {
        Edge.holds("Promise 4", "A SELLER: its number; -1: there are 8.");
        ScrapYard yard = new ScrapYard();
        for (int i = 0; i < 8; i++) {
            Check.is("seller()", yard.seller(), i);
            Check.is("count(1)", yard.count(1), i + 1);
        }
        Edge.leavesAll("a 9th seller()", -1, () -> Yards.withSellers(8), y -> y.seller());
        Check.is("again", yard.seller(), -1);
        Check.is("and again", yard.seller(), -1);
        Edge.holds("Terms 1", "SELLERS, 8 at most.");
        Check.is("money of the eighth", yard.money(7), 0);
        Check.isThrown("money of a ninth", Edge.MISSING, () -> yard.money(8));
    }

    private static void sellersOfUsual() {
        Edge.holds("Promise 8", "NoSuchElementException: no such SELLER, KIND");
        for (int seller : new int[] {-1, 2, Edge.LEAST, Edge.MOST}) {
            Edge.throwsOnly("usual(" + seller + ", 0, 0, 0)", Edge.MISSING, Yards::busy, y -> y.usual(seller, 0, 0, 0));
            Edge.throwsOnly("with nothing right", Edge.MISSING, Yards::busy, y -> y.usual(seller, 3, 5, 2));
        }
        Check.isThrown("of no SELLERS", Edge.MISSING, () -> Yards.withSellers(0).usual(0, 0, 0, 0));
        Check.is("the first", Yards.busy().usual(0, 0, 0, 0), 100);
        Check.is("the last", Yards.busy().usual(1, 0, 0, 0), 100);
    }

    private static void kindsOfUsual() {
        Edge.holds("Promise 8", "NoSuchElementException: no such SELLER, KIND");
        for (int kind : new int[] {-1, 3, Edge.LEAST, Edge.MOST}) {
            Edge.throwsOnly("usual(0, " + kind + ", 0, 0)", Edge.MISSING, Yards::busy, y -> y.usual(0, kind, 0, 0));
            Edge.throwsOnly("with no METAL, side", Edge.MISSING, Yards::busy, y -> y.usual(0, kind, 5, 2));
        }
        Check.isThrown("of no KINDS", Edge.MISSING, () -> Yards.withKinds(0).usual(0, 0, 0, 0));
        Check.is("the last", Yards.busy().usual(0, 2, 2, 1), 2000);
    }

    private static void metalsAndSidesOfUsual() {
        Edge.holds("Promise 8", "IllegalArgumentException: no such METAL, side.");
        for (int metal : Edge.NO_METALS) {
            Edge.throwsOnly("usual(0, 0, " + metal + ", 0)", Edge.WRONG, Yards::busy, y -> y.usual(0, 0, metal, 0));
        }
        for (int side : new int[] {-1, 2, Edge.LEAST, Edge.MOST}) {
            Edge.throwsOnly("usual(0, 0, 0, " + side + ")", Edge.WRONG, Yards::busy, y -> y.usual(0, 0, 0, side));
        }
        Edge.holds("Promise 8", "USUAL LOW (side 0) or HIGH (1).");
        Check.is("METAL 0, side 0", Yards.busy().usual(0, 0, 0, 0), 100);
        Check.is("METAL 0, side 1", Yards.busy().usual(0, 0, 0, 1), 300);
        Check.is("METAL 4, side 0", Yards.busy().usual(0, 1, 4, 0), 50);
        Check.is("METAL 4, side 1", Yards.busy().usual(0, 1, 4, 1), 90);
    }

    private static void usualOfNothingPutRight() {
        Edge.holds("Terms 1", "the KIND's, as long as nothing else was put right (6)");
        ScrapYard yard = Check.openYard(2, 1);
        yard.seller();
        yard.load(0, 0, 0, 2);
        yard.melt(1);
        yard.span(0, 3, 10, 20);
        usualIs(yard, 0, 0, 10, 20);
        yard.prove(0, 3, 100, 200);
        // 3 * 10 + 100 and 3 * 20 + 200, by 4
        usualIs(yard, 0, 0, 32, 65);
        usualIs(yard, 1, 0, 10, 20);
        usualIs(yard, 0, 1, 0, 10000);
        yard.span(0, 3, 10000, 10000);
        usualIs(yard, 0, 0, 32, 65);
        usualIs(yard, 1, 0, 10000, 10000);
        yard.prove(0, 3, 0, 99);
        usualIs(yard, 0, 0, 32, 65);
    }

    private static void usualIs(ScrapYard yard, int seller, int kind, int low, int high) {
        Check.is("LOW of seller " + seller + ", kind " + kind, yard.usual(seller, kind, 3, 0), low);
        Check.is("HIGH of seller " + seller + ", kind " + kind, yard.usual(seller, kind, 3, 1), high);
    }
}
