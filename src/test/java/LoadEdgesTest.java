/** Edges of promises 9 to 11 and of ==== 3.: loads, what is told of them, and samples. */
public final class LoadEdgesTest {
    public static void main(String[] args) {
        numbersFromZero();
        refusedGetsNoNumber();
        hundredLoads();
        fortyLayers();
        fortyLayersNoMore();
        noContract();
        firstOfAnswers();
        sellersAndKindsOfLoad();
        heapsOfLoad();
        tonsOfLoad();
        wrongAheadOfAnswers();
        spansAreUsualThen();
        gradeOfToday();
        paidAndTopmost();
        loadsOfTold();
        whatsOfTold();
        loadsOfSample();
        metalsAndSpansOfSample();
        nothingCommon();
        justCommon();
        layersOfItAlone();
        sameContract();
        differencePaid();
        owedBack();
        refusedByNoSample();
        Check.end();
    }

    private static void numbersFromZero() {
        Edge.holds("Terms 3", "LOADS, numbered from 0 on, 100 at most");
        ScrapYard yard = Check.openYard(1, 0);
        for (int i = 0; i < 40; i++) {
            Check.is("load", yard.load(0, 0, 5 - i % 6, 1), i);
            Check.is("count(3)", yard.count(3), i + 1);
        }
    }

    /** SELLER 0's text takes what is SURE to have less than 400 of copper. */
    private static ScrapYard strict() {
        ScrapYard yard = Check.openYard(2, 5);
        Check.contract(yard, "grade cu<400 pay 9;", 0, 0);
        yard.span(0, 0, 0, 399);
        yard.span(1, 0, 0, 400);
        yard.load(0, 0, 0, 4);
        return yard;
    }

    private static void refusedGetsNoNumber() {
        Edge.holds("Promise 9", "-1: it is REFUSED (no number is given)");
        Edge.leavesAll("load", -1, LoadEdgesTest::strict, y -> y.load(0, 1, 0, 4));
        ScrapYard yard = strict();
        yard.load(0, 1, 0, 4);
        Check.isThrown("told of it", Edge.MISSING, () -> yard.told(1, 0));
        Check.is("the next one", yard.load(0, 0, 0, 4), 1);
    }

    private static void hundredLoads() {
        Edge.holds("Promise 9", "-2: there are 100");
        Check.is("the 99th", Yards.withLoads(98).load(0, 0, 1, 1), 98);
        Check.is("the 100th", Yards.withLoads(99).load(0, 0, 1, 1), 99);
        Edge.leavesAll("the 101st", -2, LoadEdgesTest::hundredOnOneLayer, y -> y.load(0, 0, 1, 1));
        ScrapYard yard = hundredOnOneLayer();
        yard.melt(20);
        Check.is("when some are melted", yard.load(0, 0, 0, 1), -2);
        Check.is("count(3)", yard.count(3), 100);
        Check.is("the last one", yard.told(99, 2), 1);
        Check.isThrown("none behind it", Edge.MISSING, () -> yard.told(100, 2));
    }

    private static ScrapYard hundredOnOneLayer() {
        ScrapYard yard = Yards.withLoads(100);
        yard.mix(0);
        return yard;
    }

    private static void fortyLayers() {
        Edge.holds("Promise 9", "-3: there are 40 LAYERS");
        Check.is("the 39th", Yards.withLayers(38).load(0, 0, 0, 1), 38);
        Check.is("the 40th", Yards.withLayers(39).load(0, 0, 0, 1), 39);
        for (int i = 0; i < 6; i++) {
            int heap = i;
            Edge.leavesAll("the 41st on heap " + heap, -3, () -> Yards.withLayers(40), y -> y.load(0, 0, heap, 1));
        }
        Edge.holds("Terms 4", "40 in all HEAPS");
        ScrapYard yard = Check.openYard(1, 1);
        for (int i = 0; i < 40; i++) {
            Check.is("load", yard.load(0, 0, 2, 1), i);
        }
        Check.is("layers(2)", yard.layers(2), 40);
        Check.is("on another HEAP", yard.load(0, 0, 3, 1), -3);
    }

    private static void fortyLayersNoMore() {
        Edge.holds("Promise 9", "-3: there are 40 LAYERS");
        ScrapYard yard = Yards.withLayers(40);
        yard.mix(0);
        Check.is("when some are mixed", yard.load(0, 0, 0, 1), 40);
        yard = Yards.withLayers(40);
        yard.melt(1);
        Check.is("when a part of one is melted", yard.load(0, 0, 0, 1), -3);
        yard.melt(1);
        Check.is("when one is melted", yard.load(0, 0, 0, 1), 40);
        Check.is("as many again", yard.load(0, 0, 0, 1), -3);
    }

    private static void noContract() {
        Edge.holds("Promise 9", "-4: no CONTRACT is in force");
        ScrapYard yard = Yards.withSellers(2);
        Check.is("none told", yard.load(0, 0, 0, 1), -4);
        Check.contract(yard, "else pay 1;", 1, 0);
        Check.is("another SELLER's", yard.load(0, 0, 0, 1), -4);
        Check.contract(yard, "else pay 2;", 0, 3);
        yard.day(2);
        Check.is("the DAY ahead", yard.load(0, 0, 0, 1), -4);
        yard.day(1);
        Check.is("on its DAY", yard.load(0, 0, 0, 1), 0);
        Edge.leavesAll("load", -4, LoadEdgesTest::contractTomorrow, y -> y.load(0, 0, 0, 1));
    }

    private static ScrapYard contractTomorrow() {
        ScrapYard yard = Yards.withSellers(1);
        Check.contract(yard, "else pay 1;", 0, 1);
        return yard;
    }

    /** Adds SELLER 1, whose text refuses all, and SELLER 2, who has none. */
    private static ScrapYard withMoreSellers(ScrapYard yard) {
        yard.seller();
        yard.seller();
        yard.contract(0, 1, 0);
        return yard;
    }

    private static void firstOfAnswers() {
        Edge.holds("Promise 9", "(the first of -2, -3, -4, -1)");
        ScrapYard yard = withMoreSellers(Yards.withLoads(100));
        Check.is("count(4)", yard.count(4), 40);
        for (int seller = 0; seller < 3; seller++) {
            Check.is("100 LOADS and 40 LAYERS", yard.load(seller, 0, 1, 1), -2);
        }
        yard.mix(0);
        for (int seller = 0; seller < 3; seller++) {
            Check.is("100 LOADS", yard.load(seller, 0, 1, 1), -2);
        }
        yard = withMoreSellers(Yards.withLayers(40));
        for (int seller = 0; seller < 3; seller++) {
            Check.is("40 LAYERS", yard.load(seller, 0, 1, 1), -3);
        }
        yard.mix(0);
        Check.is("no CONTRACT", yard.load(2, 0, 1, 1), -4);
        Check.is("REFUSED", yard.load(1, 0, 1, 1), -1);
        Check.is("taken", yard.load(0, 0, 1, 1), 40);
    }

    private static void sellersAndKindsOfLoad() {
        Edge.holds("Promise 9", "NoSuchElementException: no such SELLER, KIND");
        for (int seller : new int[] {-1, 2, Edge.LEAST, Edge.MOST}) {
            Edge.throwsOnly("load(" + seller + ", 0, 0, 1)", Edge.MISSING, Yards::busy, y -> y.load(seller, 0, 0, 1));
            Edge.throwsOnly("with nothing right", Edge.MISSING, Yards::busy, y -> y.load(seller, 3, 6, 0));
        }
        for (int kind : new int[] {-1, 3, Edge.LEAST, Edge.MOST}) {
            Edge.throwsOnly("load(0, " + kind + ", 0, 1)", Edge.MISSING, Yards::busy, y -> y.load(0, kind, 0, 1));
            Edge.throwsOnly("with no HEAP, TONS", Edge.MISSING, Yards::busy, y -> y.load(0, kind, 6, 0));
        }
        Check.is("the first of both", Yards.busy().load(0, 0, 0, 1), 6);
        Check.is("the last of both", Yards.busy().load(1, 2, 0, 1), 6);
    }

    private static void heapsOfLoad() {
        Edge.holds("Promise 9", "IllegalArgumentException: no such HEAP (0 to 5)");
        for (int heap : Edge.NO_HEAPS) {
            Edge.throwsOnly("load(0, 0, " + heap + ", 1)", Edge.WRONG, Yards::busy, y -> y.load(0, 0, heap, 1));
        }
        for (int heap = 0; heap <= 5; heap++) {
            ScrapYard yard = Check.openYard(1, 1);
            Check.is("heap " + heap, yard.load(0, 0, heap, 3), 0);
            Check.is("its TONS", yard.tons(heap), 3);
            Check.is("all TONS", yard.count(6), 3);
        }
    }

    private static void tonsOfLoad() {
        Edge.holds("Promise 9", "or TONS.");
        for (int tons : new int[] {0, 51, -1, Edge.LEAST, Edge.MOST}) {
            Edge.throwsOnly("load(0, 0, 0, " + tons + ")", Edge.WRONG, Yards::busy, y -> y.load(0, 0, 0, tons));
        }
        Edge.holds("Terms 3", "TONS (1 to 50)");
        ScrapYard yard = Check.openYard(1, 99999);
        Check.is("1 ton", yard.load(0, 0, 0, 1), 0);
        Check.is("50 tons", yard.load(0, 0, 0, 50), 1);
        Check.is("TONS", yard.told(1, 2), 50);
        Check.is("TONS of both", yard.tons(0), 51);
        Check.is("money", yard.money(0), 51L * 99999);
    }

    private static void wrongAheadOfAnswers() {
        Edge.holds("Promise 9", "NoSuchElementException: no such SELLER, KIND; IllegalArgumentException: no such HEAP (0 to 5), or TONS.");
        ScrapYard full = withMoreSellers(Yards.withLoads(100));
        ScrapYard layers = withMoreSellers(Yards.withLayers(40));
        for (ScrapYard yard : new ScrapYard[] {full, layers}) {
            for (int i = 0; i < 3; i++) {
                int seller = i;
                Check.isThrown("no such SELLER", Edge.MISSING, () -> yard.load(3, 0, 0, 1));
                Check.isThrown("no such KIND", Edge.MISSING, () -> yard.load(seller, 1, 0, 1));
                Check.isThrown("no such HEAP", Edge.WRONG, () -> yard.load(seller, 0, 6, 1));
                Check.isThrown("0 tons", Edge.WRONG, () -> yard.load(seller, 0, 0, 0));
                Check.isThrown("51 tons", Edge.WRONG, () -> yard.load(seller, 0, 0, 51));
            }
        }
    }

    private static void spansAreUsualThen() {
        Edge.holds("Terms 3", "Its SPANS are what is USUAL then");
        ScrapYard yard = Check.openYard(1, 1);
        yard.load(0, 0, 0, 2);
        yard.melt(1);
        yard.prove(0, 1, 400, 800);
        yard.load(0, 0, 1, 1);
        Check.is("LOW then", yard.told(1, 8), 100);
        Check.is("HIGH then", yard.told(1, 9), 7700);
        Check.is("LOW of another METAL", yard.told(1, 6), 0);
        Check.is("LOW of the LOAD ahead", yard.told(0, 8), 0);
        yard.prove(0, 1, 0, 10000);
        Check.is("LOW stays when it is put right again", yard.told(1, 8), 100);
        Check.is("what is USUAL now", yard.usual(0, 0, 1, 0), 175);
        Check.is("LOW of its LAYER", yard.layer(1, 0, 5), 100);
    }

    private static void gradeOfToday() {
        Edge.holds("Terms 3", "its GRADE by the CONTRACT in force today");
        ScrapYard yard = Yards.withSellers(1);
        Check.contract(yard, "else pay 1;", 0, 0);
        Check.contract(yard, "grade cu<1 pay 7; else pay 2;", 0, 4);
        yard.day(3);
        yard.load(0, 0, 0, 1);
        yard.day(1);
        yard.load(0, 0, 0, 1);
        Check.is("PAY on 3", yard.told(0, 5), 1);
        Check.is("GRADE on 3", yard.told(0, 4), 0);
        Check.is("DAY it came", yard.told(0, 3), 3);
        Check.is("PAY on 4", yard.told(1, 5), 2);
        Check.is("GRADE on 4", yard.told(1, 4), 1);
        Check.is("DAY it came", yard.told(1, 3), 4);
        Check.contract(yard, "else pay 9;", 0, 3);
        yard.load(0, 0, 0, 1);
        Check.is("PAY by the greatest DAY", yard.told(2, 5), 2);
    }

    private static void paidAndTopmost() {
        Edge.holds("Terms 3", "One that is not REFUSED is paid (TONS * PAY) and lies as the topmost LAYER on its HEAP.");
        ScrapYard yard = Check.openYard(1, 7);
        yard.load(0, 0, 2, 3);
        yard.load(0, 0, 2, 5);
        Check.is("money", yard.money(0), 56);
        Check.is("topmost", yard.layer(2, 0, 1), 1);
        Check.is("its TONS", yard.layer(2, 0, 0), 5);
        Check.is("its COST", yard.layer(2, 0, 2), 7);
        Check.is("below it", yard.layer(2, 1, 1), 0);
        Check.contract(yard, "else pay 0;", 0, 0);
        Check.is("one for nothing", yard.load(0, 0, 2, 5), 2);
        Check.is("money", yard.money(0), 56);
        Check.is("topmost", yard.layer(2, 0, 1), 2);
    }

    private static void loadsOfTold() {
        Edge.holds("Promise 10", "NoSuchElementException: no such LOAD (so below)");
        for (int load : new int[] {-1, 6, Edge.LEAST, Edge.MOST}) {
            Edge.throwsOnly("told(" + load + ", 0)", Edge.MISSING, Yards::busy, y -> y.told(load, 0));
            Edge.throwsOnly("told(" + load + ", 16)", Edge.MISSING, Yards::busy, y -> y.told(load, 16));
        }
        Check.is("the first", Yards.busy().told(0, 2), 10);
        Check.is("the last", Yards.busy().told(5, 2), 3);
    }

    private static void whatsOfTold() {
        Edge.holds("Promise 10", "IllegalArgumentException: another what.");
        for (int what : new int[] {-1, 16, 17, Edge.LEAST, Edge.MOST}) {
            Edge.throwsOnly("told(5, " + what + ")", Edge.WRONG, Yards::busy, y -> y.told(5, what));
        }
        Edge.holds("Promise 10", "0 SELLER, 1 KIND, 2 TONS, 3 the DAY it came, 4 GRADE, 5 PAY, 6 + 2 m LOW and 7 + 2 m HIGH of METAL m.");
        ScrapYard yard = Yards.withSellers(3);
        yard.kind();
        yard.day(30);
        Check.contract(yard, "grade cu<1 pay 1;else pay 40;", 2, 30);
        for (int metal = 0; metal < 5; metal++) {
            yard.span(1, metal, 50 + 2 * metal, 51 + 2 * metal);
        }
        yard.load(2, 1, 5, 20);
        int[] due = {2, 1, 20, 30, 1, 40, 50, 51, 52, 53, 54, 55, 56, 57, 58, 59};
        for (int what = 0; what < 16; what++) {
            Check.is("told(0, " + what + ")", yard.told(0, what), due[what]);
        }
    }

    private static void loadsOfSample() {
        Edge.holds("Promise 10", "NoSuchElementException: no such LOAD (so below)");
        for (int load : new int[] {-1, 6, Edge.LEAST, Edge.MOST}) {
            Edge.throwsOnly("sample(" + load + ", 0, 0, 10000)", Edge.MISSING, Yards::busy, y -> y.sample(load, 0, 0, 10000));
            Edge.throwsOnly("with nothing right", Edge.MISSING, Yards::busy, y -> y.sample(load, 5, 2, 1));
        }
        Check.is("the first", Yards.busy().sample(0, 0, 0, 10000), 1);
        Check.is("the last", Yards.busy().sample(5, 0, 0, 10000), 1);
    }

    private static void metalsAndSpansOfSample() {
        Edge.holds("Promise 11", "IllegalArgumentException as span().");
        for (int metal : Edge.NO_METALS) {
            Edge.throwsOnly("sample(0, " + metal + ", 0, 10000)", Edge.WRONG, Yards::busy, y -> y.sample(0, metal, 0, 10000));
        }
        for (int[] span : Edge.NO_SPANS) {
            Edge.throwsOnly("sample(0, 1, " + span[0] + ", " + span[1] + ")", Edge.WRONG, Yards::busy,
                    y -> y.sample(0, 1, span[0], span[1]));
        }
        for (int metal = 0; metal < 5; metal++) {
            for (int[] span : Edge.SPANS) {
                ScrapYard yard = Check.openYard(1, 1);
                yard.load(0, 0, 0, 1);
                Check.is("sample", yard.sample(0, metal, span[0], span[1]), 1);
                Check.is("LOW", yard.told(0, 6 + 2 * metal), span[0]);
                Check.is("HIGH", yard.told(0, 7 + 2 * metal), span[1]);
            }
        }
    }

    /** LOAD 0 has 100 to 200 of chrome; less than 150 of it would be paid more. */
    private static ScrapYard sampled() {
        ScrapYard yard = Yards.withSellers(1);
        Check.contract(yard, "grade cr<150 pay 9; else pay 4;", 0, 0);
        yard.span(0, 2, 100, 200);
        yard.load(0, 0, 0, 10);
        yard.move(0, 1, 4);
        return yard;
    }

    private static void nothingCommon() {
        Edge.holds("Promise 11", "0, doing nothing: nothing is common.");
        int[][] spans = {{0, 99}, {99, 99}, {0, 0}, {201, 201}, {201, 10000}, {10000, 10000}};
        for (int[] span : spans) {
            Edge.leavesAll("sample of " + span[0] + " to " + span[1], 0, LoadEdgesTest::sampled,
                    y -> y.sample(0, 2, span[0], span[1]));
        }
    }

    private static void justCommon() {
        Edge.holds("Terms 3", "what is common to this and the LOAD's is the LOAD's then");
        int[][] rows = {
            {0, 100, 100, 100}, {100, 100, 100, 100}, {200, 10000, 200, 200}, {200, 200, 200, 200}, {0, 10000, 100, 200},
            {100, 200, 100, 200}, {101, 199, 101, 199}, {150, 300, 150, 200}, {50, 150, 100, 150}, {99, 201, 100, 200},
        };
        for (int[] row : rows) {
            ScrapYard yard = sampled();
            Check.is("sample of " + row[0] + " to " + row[1], yard.sample(0, 2, row[0], row[1]), 1);
            Check.is("LOW", yard.told(0, 10), row[2]);
            Check.is("HIGH", yard.told(0, 11), row[3]);
            Check.is("LOW of a LAYER", yard.layer(1, 0, 7), row[2]);
            Check.is("HIGH of a LAYER", yard.layer(0, 0, 8), row[3]);
            Check.is("HIGH of another METAL", yard.told(0, 9), 10000);
        }
    }

    private static void layersOfItAlone() {
        Edge.holds("Terms 3", "also of what is in LAYERS of it alone");
        ScrapYard yard = Check.openYard(1, 1);
        yard.load(0, 0, 0, 10);
        yard.load(0, 0, 0, 10);
        yard.move(0, 1, 12);
        yard.move(1, 2, 1);
        yard.move(0, 3, 3);
        yard.load(0, 0, 3, 1);
        yard.mix(3);
        yard.melt(1);
        Check.is("sample", yard.sample(0, 0, 30, 40), 1);
        Check.is("LAYER that kept the rest", yard.layer(0, 0, 4), 40);
        Check.is("LAYER that was moved", yard.layer(1, 0, 4), 40);
        Check.is("LAYER that was moved twice", yard.layer(2, 0, 4), 40);
        Check.is("LAYER of another LOAD", yard.layer(1, 1, 4), 10000);
        Check.is("mixed LAYER", yard.layer(3, 0, 4), 10000);
        Check.is("the other LOAD", yard.told(1, 7), 10000);
        Check.is("PORTION", yard.portion(0, 0, 3), 10000);
        Check.is("what is USUAL", yard.usual(0, 0, 0, 1), 10000);
    }

    private static void sameContract() {
        Edge.holds("Terms 3", "GRADE and PAY are told anew by the same CONTRACT");
        ScrapYard yard = sampled();
        Check.contract(yard, "else pay 50;", 0, 0);
        yard.day(10);
        Check.is("sample", yard.sample(0, 2, 0, 150), 1);
        Check.is("GRADE, not yet SURE", yard.told(0, 4), 1);
        Check.is("PAY", yard.told(0, 5), 4);
        Check.is("sample", yard.sample(0, 2, 0, 149), 1);
        Check.is("GRADE, just SURE", yard.told(0, 4), 0);
        Check.is("PAY", yard.told(0, 5), 9);
        Check.is("the DAY it came", yard.told(0, 3), 0);
        Check.is("COST as it came there", yard.layer(0, 0, 2), 4);
    }

    private static void differencePaid() {
        Edge.holds("Terms 3", "the difference is paid (or owed back) today");
        ScrapYard yard = sampled();
        Check.is("money", yard.money(0), 40);
        yard.sample(0, 2, 0, 180);
        Check.is("no difference", yard.money(0), 40);
        yard.melt(10);
        yard.sample(0, 2, 0, 149);
        Check.is("of all its TONS, melted ones too", yard.money(0), 90);
        yard.sample(0, 2, 0, 149);
        Check.is("once", yard.money(0), 90);
        yard.sample(0, 2, 200, 200);
        Check.is("nothing common", yard.money(0), 90);
    }

    private static void owedBack() {
        Edge.holds("Terms 3", "the difference is paid (or owed back) today");
        ScrapYard yard = Yards.withSellers(1);
        Check.contract(yard, "grade cu>10 pay 0; else pay 99999;", 0, 0);
        yard.load(0, 0, 0, 50);
        Check.is("money", yard.money(0), 50L * 99999);
        yard.sample(0, 0, 11, 10000);
        Check.is("PAY", yard.told(0, 5), 0);
        Check.is("all owed back", yard.money(0), 0);
    }

    /** What was SURE stays so when SPANS become narrower: a LOAD that was paid is not REFUSED later. */
    private static void refusedByNoSample() {
        Edge.holds("Terms 3", "(REFUSED: GRADE NONE, PAY 0)");
        ScrapYard yard = strict();
        yard.sample(0, 0, 399, 399);
        yard.sample(0, 1, 10000, 10000);
        Check.is("GRADE", yard.told(0, 4), 0);
        Check.is("PAY", yard.told(0, 5), 9);
    }
}
