/** Edges of promises 21 to 23 and of ==== 6.: portions, proofs, and what is usual put right. */
public final class ProofEdgesTest {
    public static void main(String[] args) {
        meltsOfPortions();
        portionsOfAMelt();
        meltsAndNumbersOfPortion();
        whatsOfPortion();
        loadOfAMixedOne();
        meltsOfProve();
        metalsAndSpansOfProve();
        onePortionJustCommon();
        onePortionFalse();
        atLeastRoundedUp();
        atMostCut();
        bySpansAhead();
        boundsBeyondParts();
        sumsJustReached();
        sumsMissed();
        noneForTheLastAlone();
        noneForTheFirstAlone();
        lowPutRightCut();
        highPutRightRoundedUp();
        portionByPortion();
        portionsOfOneLoad();
        mixedOnesPutNothingRight();
        eachSellersKind();
        nothingElseChanges();
        Check.end();
    }

    private static void meltsOfPortions() {
        Edge.holds("Promise 21", "NoSuchElementException: no such MELT (so below).");
        for (int melt : new int[] {-1, 3, Edge.LEAST, Edge.MOST}) {
            Edge.throwsOnly("portions(" + melt + ")", Edge.MISSING, Yards::busy, y -> y.portions(melt));
        }
        int[] due = {1, 2, 2};
        for (int melt = 0; melt < 3; melt++) {
            Check.is("portions(" + melt + ")", Yards.busy().portions(melt), due[melt]);
        }
    }

    private static void portionsOfAMelt() {
        Edge.holds("Promise 21", "How many PORTIONS a MELT has.");
        for (int portions = 1; portions <= 20; portions++) {
            ScrapYard yard = Check.openYard(1, 5);
            for (int i = 0; i < 20; i++) {
                yard.load(0, 0, i < 8 ? i % 6 : 0, 1);
            }
            yard.melt(portions);
            Check.is("of a ton each", yard.portions(0), portions);
        }
        ScrapYard yard = Check.openYard(1, 5);
        yard.load(0, 0, 0, 50);
        yard.melt(20);
        Check.is("all of one LAYER", yard.portions(0), 1);
    }

    private static void meltsAndNumbersOfPortion() {
        Edge.holds("Promise 22", "NoSuchElementException: also no such PORTION");
        for (int melt : new int[] {-1, 3, Edge.LEAST, Edge.MOST}) {
            Edge.throwsOnly("portion(" + melt + ", 0, 0)", Edge.MISSING, Yards::busy, y -> y.portion(melt, 0, 0));
            Edge.throwsOnly("with nothing right", Edge.MISSING, Yards::busy, y -> y.portion(melt, -1, 12));
        }
        for (int k : new int[] {-1, 2, Edge.LEAST, Edge.MOST}) {
            Edge.throwsOnly("portion(1, " + k + ", 0)", Edge.MISSING, Yards::busy, y -> y.portion(1, k, 0));
            Edge.throwsOnly("portion(1, " + k + ", 12)", Edge.MISSING, Yards::busy, y -> y.portion(1, k, 12));
        }
        Check.isThrown("behind the only one", Edge.MISSING, () -> Yards.busy().portion(0, 1, 0));
        Check.is("the first", Yards.busy().portion(1, 0, 0), 6);
        Check.is("the last", Yards.busy().portion(1, 1, 0), 14);
    }

    private static void whatsOfPortion() {
        Edge.holds("Promise 22", "IllegalArgumentException: another what.");
        for (int what : new int[] {-1, 12, 13, Edge.LEAST, Edge.MOST}) {
            Edge.throwsOnly("portion(1, 1, " + what + ")", Edge.WRONG, Yards::busy, y -> y.portion(1, 1, what));
        }
        Edge.holds("Promise 22", "Of PORTION k: 0 TONS, 1 LOAD (NONE: of a mixed LAYER), 2 + 2 m LOW, 3 + 2 m HIGH.");
        ScrapYard yard = Check.openYard(1, 30);
        for (int metal = 0; metal < 5; metal++) {
            yard.span(0, metal, 50 + 2 * metal, 51 + 2 * metal);
        }
        yard.load(0, 0, 0, 9);
        yard.load(0, 0, 0, 10);
        yard.melt(10);
        int[] due = {10, 1, 50, 51, 52, 53, 54, 55, 56, 57, 58, 59};
        for (int what = 0; what < 12; what++) {
            Check.is("portion(0, 0, " + what + ")", yard.portion(0, 0, what), due[what]);
        }
    }

    private static void loadOfAMixedOne() {
        Edge.holds("Promise 22", "1 LOAD (NONE: of a mixed LAYER)");
        ScrapYard yard = Yards.busy();
        Check.is("of LOAD 2", yard.portion(2, 0, 1), 2);
        Check.is("mixed", yard.portion(2, 1, 1), -1);
        Check.is("its TONS", yard.portion(2, 1, 0), 2);
    }

    private static void meltsOfProve() {
        Edge.holds("Promise 21", "NoSuchElementException: no such MELT (so below).");
        for (int melt : new int[] {-1, 3, Edge.LEAST, Edge.MOST}) {
            Edge.throwsOnly("prove(" + melt + ", 0, 0, 10000)", Edge.MISSING, Yards::busy, y -> y.prove(melt, 0, 0, 10000));
            Edge.throwsOnly("with nothing right", Edge.MISSING, Yards::busy, y -> y.prove(melt, 5, 2, 1));
        }
        Check.is("the first", Yards.busy().prove(0, 0, 0, 10000), 1);
        Check.is("the last", Yards.busy().prove(2, 0, 0, 10000), 1);
    }

    private static void metalsAndSpansOfProve() {
        Edge.holds("Promise 23", "IllegalArgumentException as span().");
        for (int metal : Edge.NO_METALS) {
            Edge.throwsOnly("prove(1, " + metal + ", 0, 10000)", Edge.WRONG, Yards::busy, y -> y.prove(1, metal, 0, 10000));
        }
        for (int[] span : Edge.NO_SPANS) {
            Edge.throwsOnly("prove(1, 3, " + span[0] + ", " + span[1] + ")", Edge.WRONG, Yards::busy,
                    y -> y.prove(1, 3, span[0], span[1]));
        }
        for (int metal = 0; metal < 5; metal++) {
            for (int[] span : Edge.SPANS) {
                ScrapYard yard = oneOf(metal, 0, 10000);
                Check.is("prove", yard.prove(0, metal, span[0], span[1]), 1);
                portionIs(yard, 0, metal, span[0], span[1]);
            }
        }
    }

    /** MELT 0 is 3 tons of LOAD 0, which has such a SPAN; 2 tons of it are left. */
    private static ScrapYard oneOf(int metal, int low, int high) {
        ScrapYard yard = Check.openYard(1, 5);
        yard.span(0, metal, low, high);
        yard.load(0, 0, 0, 5);
        yard.melt(3);
        return yard;
    }

    /** MELT 0 is of so many tons of KIND 0 (LOAD 0), and so many of KIND 1, each with a SPAN of nickel. */
    private static ScrapYard twoOf(int tons, int low, int high, int otherTons, int otherLow, int otherHigh) {
        ScrapYard yard = Check.openYard(2, 5);
        yard.span(0, 1, low, high);
        yard.span(1, 1, otherLow, otherHigh);
        yard.load(0, 0, 0, tons);
        yard.load(0, 1, 1, otherTons);
        yard.melt(tons + otherTons);
        return yard;
    }

    private static ScrapYard threeAndTwo() {
        return twoOf(3, 100, 400, 2, 50, 300);
    }

    private static void portionIs(ScrapYard yard, int k, int metal, int low, int high) {
        Check.is("LOW of portion " + k, yard.portion(0, k, 2 + 2 * metal), low);
        Check.is("HIGH of portion " + k, yard.portion(0, k, 3 + 2 * metal), high);
    }

    private static void usualIs(ScrapYard yard, int kind, int metal, int low, int high) {
        Check.is("LOW of kind " + kind, yard.usual(0, kind, metal, 0), low);
        Check.is("HIGH of kind " + kind, yard.usual(0, kind, metal, 1), high);
    }

    private static void onePortionJustCommon() {
        Edge.holds("Terms 6", "what is common to this and its SPAN is its SPAN then");
        int[][] rows = {
            {0, 100, 100, 100}, {100, 100, 100, 100}, {200, 200, 200, 200}, {200, 10000, 200, 200}, {0, 10000, 100, 200},
            {101, 199, 101, 199}, {99, 150, 100, 150}, {150, 201, 150, 200}, {150, 150, 150, 150},
        };
        for (int metal = 0; metal < 5; metal++) {
            for (int[] row : rows) {
                ScrapYard yard = oneOf(metal, 100, 200);
                Check.is("prove of " + row[0] + " to " + row[1], yard.prove(0, metal, row[0], row[1]), 1);
                portionIs(yard, 0, metal, row[2], row[3]);
                portionIs(yard, 0, (metal + 1) % 5, 0, 10000);
            }
        }
    }

    private static void onePortionFalse() {
        Edge.holds("Terms 6", "If there is none for some PORTION the PROOF is FALSE, and nothing changes.");
        int[][] spans = {{0, 99}, {0, 0}, {99, 99}, {201, 201}, {201, 10000}, {10000, 10000}};
        for (int[] span : spans) {
            Edge.leavesAll("prove of " + span[0] + " to " + span[1], 0, () -> oneOf(2, 100, 200),
                    y -> y.prove(0, 2, span[0], span[1]));
        }
    }

    private static void atLeastRoundedUp() {
        Edge.holds("Terms 6", "what is true of PORTION i is at least (T * LOW less the sum of the others' TONS * HIGH) by its TONS, rounded up");
        // 5 * LOW less 2 * 300, by 3; 5 * LOW less 3 * 400, by 2
        int[][] rows = {{180, 100, 50}, {181, 102, 50}, {210, 150, 50}, {211, 152, 50}, {212, 154, 50},
            {213, 155, 50}, {260, 234, 50}, {261, 235, 53}, {262, 237, 55}, {359, 399, 298}, {360, 400, 300}};
        for (int[] row : rows) {
            ScrapYard yard = threeAndTwo();
            Check.is("prove from " + row[0], yard.prove(0, 1, row[0], 10000), 1);
            portionIs(yard, 0, 1, row[1], 400);
            portionIs(yard, 1, 1, row[2], 300);
        }
    }

    private static void atMostCut() {
        Edge.holds("Terms 6", "at most (T * HIGH less the sum of the others' TONS * LOW) by its TONS, cut");
        // 5 * HIGH less 2 * 50, by 3; 5 * HIGH less 3 * 100, by 2
        int[][] rows = {{80, 100, 50}, {81, 101, 52}, {82, 103, 55}, {83, 105, 57}, {180, 266, 300}, {181, 268, 300},
            {179, 265, 297}, {259, 398, 300}, {260, 400, 300}};
        for (int[] row : rows) {
            ScrapYard yard = threeAndTwo();
            Check.is("prove up to " + row[0], yard.prove(0, 1, 0, row[0]), 1);
            portionIs(yard, 0, 1, 100, row[1]);
            portionIs(yard, 1, 1, 50, row[2]);
        }
    }

    private static void bySpansAhead() {
        Edge.holds("Terms 6", "(all by the SPANS ahead of this)");
        ScrapYard yard = twoOf(1, 0, 100, 1, 0, 100);
        Check.is("prove", yard.prove(0, 1, 90, 100), 1);
        portionIs(yard, 0, 1, 80, 100);
        portionIs(yard, 1, 1, 80, 100);
        yard = twoOf(1, 0, 100, 1, 0, 100);
        Check.is("prove", yard.prove(0, 1, 0, 10), 1);
        portionIs(yard, 0, 1, 0, 20);
        portionIs(yard, 1, 1, 0, 20);
        Check.is("prove again", yard.prove(0, 1, 15, 100), 1);
        portionIs(yard, 0, 1, 10, 20);
        portionIs(yard, 1, 1, 10, 20);
        // 3 tons can have 1 at most, of 4 in all; that 4 less 3 are then left for the other is not asked
        spansAre(twoOf(3, 0, 10, 1, 0, 10), 1, 0, 1, 0, 4);
        spansAre(twoOf(1, 0, 10, 3, 0, 10), 1, 0, 4, 0, 1);
        // 3 tons must have 9 at least, of 36 in all; that 36 less 27 are then left is not asked
        spansAre(twoOf(3, 0, 10, 1, 0, 10), 9, 9, 10, 6, 10);
        spansAre(twoOf(1, 0, 10, 3, 0, 10), 9, 6, 10, 9, 10);
    }

    /** What both PORTIONS have when the mean is proved to be just this. */
    private static void spansAre(ScrapYard yard, int mean, int low, int high, int otherLow, int otherHigh) {
        Check.is("prove of " + mean, yard.prove(0, 1, mean, mean), 1);
        portionIs(yard, 0, 1, low, high);
        portionIs(yard, 1, 1, otherLow, otherHigh);
    }

    private static void boundsBeyondParts() {
        Edge.holds("Terms 6", "what is common to this and its SPAN is its SPAN then");
        ScrapYard yard = twoOf(1, 0, 10000, 19, 0, 10000);
        Check.is("at least far below 0, at most far above 10,000", yard.prove(0, 1, 1, 9999), 1);
        portionIs(yard, 0, 1, 0, 10000);
        portionIs(yard, 1, 1, 0, 10000);
        Check.is("all is 0", yard.prove(0, 1, 0, 0), 1);
        portionIs(yard, 0, 1, 0, 0);
        portionIs(yard, 1, 1, 0, 0);
        yard = twoOf(19, 0, 10000, 1, 0, 10000);
        Check.is("all is 10,000", yard.prove(0, 1, 10000, 10000), 1);
        portionIs(yard, 0, 1, 10000, 10000);
        portionIs(yard, 1, 1, 10000, 10000);
    }

    private static void sumsJustReached() {
        Edge.holds("Terms 6", "S is from T * LOW to T * HIGH (T all TONS)");
        ScrapYard yard = threeAndTwo();
        Check.is("all HIGHS", yard.prove(0, 1, 360, 360), 1);
        portionIs(yard, 0, 1, 400, 400);
        portionIs(yard, 1, 1, 300, 300);
        yard = threeAndTwo();
        Check.is("all LOWS", yard.prove(0, 1, 80, 80), 1);
        portionIs(yard, 0, 1, 100, 100);
        portionIs(yard, 1, 1, 50, 50);
    }

    private static void sumsMissed() {
        Edge.holds("Promise 23", "PROVED: 1; 0: FALSE.");
        int[][] spans = {{361, 361}, {361, 10000}, {10000, 10000}, {79, 79}, {0, 79}, {0, 0}};
        for (int[] span : spans) {
            Edge.leavesAll("prove of " + span[0] + " to " + span[1], 0, ProofEdgesTest::threeAndTwo,
                    y -> y.prove(0, 1, span[0], span[1]));
        }
    }

    /** A ton with just 3 and two tons that then would have to have 4.5 each; what is usual is another SPAN by now. */
    private static ScrapYard oneAndTwo() {
        ScrapYard yard = twoOf(1, 3, 3, 2, 0, 10);
        yard.span(0, 1, 1000, 2000);
        yard.span(1, 1, 3000, 4000);
        return yard;
    }

    private static void noneForTheLastAlone() {
        Edge.holds("Terms 6", "If there is none for some PORTION the PROOF is FALSE, and nothing changes.");
        Edge.leavesAll("prove of 4", 0, ProofEdgesTest::oneAndTwo, y -> y.prove(0, 1, 4, 4));
        ScrapYard yard = oneAndTwo();
        yard.prove(0, 1, 4, 4);
        yard.span(0, 1, 5, 6);
        usualIs(yard, 0, 1, 5, 6);
        Check.is("prove of 4 to 5", yard.prove(0, 1, 4, 5), 1);
        portionIs(yard, 1, 1, 5, 6);
    }

    private static void noneForTheFirstAlone() {
        Edge.holds("Terms 6", "If there is none for some PORTION the PROOF is FALSE, and nothing changes.");
        Edge.leavesAll("prove of 4", 0, ProofEdgesTest::twoAndOne, y -> y.prove(0, 1, 4, 4));
        Check.is("prove of 5", twoAndOne().prove(0, 1, 5, 5), 1);
    }

    private static ScrapYard twoAndOne() {
        ScrapYard yard = twoOf(2, 0, 10, 1, 3, 3);
        yard.span(0, 1, 1000, 2000);
        yard.span(1, 1, 3000, 4000);
        return yard;
    }

    private static void lowPutRightCut() {
        Edge.holds("Terms 6", "LOW: 3 times LOW and the PORTION's LOW, together by 4, cut");
        for (int more = 0; more <= 9; more++) {
            ScrapYard yard = oneOf(4, 100, 200);
            Check.is("prove", yard.prove(0, 4, 100 + more, 200), 1);
            usualIs(yard, 0, 4, 100 + more / 4, 200);
        }
        ScrapYard yard = oneOf(4, 0, 10000);
        yard.prove(0, 4, 3, 10000);
        usualIs(yard, 0, 4, 0, 10000);
        yard.prove(0, 4, 10000, 10000);
        usualIs(yard, 0, 4, 2500, 10000);
    }

    private static void highPutRightRoundedUp() {
        Edge.holds("Terms 6", "HIGH: 3 times HIGH and the PORTION's HIGH, together by 4, rounded up");
        for (int less = 0; less <= 9; less++) {
            ScrapYard yard = oneOf(4, 100, 200);
            Check.is("prove", yard.prove(0, 4, 100, 200 - less), 1);
            usualIs(yard, 0, 4, 100, 200 - less / 4);
        }
        ScrapYard yard = oneOf(4, 0, 1);
        yard.prove(0, 4, 0, 0);
        usualIs(yard, 0, 4, 0, 1);
        yard = oneOf(4, 0, 10000);
        yard.prove(0, 4, 0, 0);
        usualIs(yard, 0, 4, 0, 7500);
    }

    private static void portionByPortion() {
        Edge.holds("Terms 6", "Then, PORTION by PORTION, of each that is of a LOAD: USUAL of that SELLER's KIND, of this METAL, is put right");
        ScrapYard yard = Check.openYard(1, 5);
        yard.span(0, 1, 0, 1000);
        yard.load(0, 0, 0, 1);
        yard.load(0, 0, 1, 1);
        yard.melt(2);
        yard.prove(0, 1, 900, 900);
        // 800 by 4 is 200, then 3 * 200 + 800 by 4
        usualIs(yard, 0, 1, 350, 1000);
        yard = Check.openYard(1, 5);
        yard.span(0, 1, 0, 1000);
        yard.load(0, 0, 0, 1);
        yard.load(0, 0, 1, 1);
        yard.melt(2);
        yard.prove(0, 1, 100, 100);
        // 3 * 1000 + 200 by 4 is 800, then 3 * 800 + 200 by 4
        usualIs(yard, 0, 1, 0, 650);
        usualIs(yard, 0, 2, 0, 10000);
    }

    private static void portionsOfOneLoad() {
        Edge.holds("Terms 6", "Then, PORTION by PORTION, of each that is of a LOAD");
        ScrapYard yard = Check.openYard(1, 5);
        yard.span(0, 1, 0, 1000);
        yard.load(0, 0, 0, 2);
        yard.move(0, 1, 1);
        yard.melt(2);
        Check.is("portions", yard.portions(0), 2);
        yard.prove(0, 1, 900, 900);
        usualIs(yard, 0, 1, 350, 1000);
    }

    private static void mixedOnesPutNothingRight() {
        Edge.holds("Terms 6", "of each that is of a LOAD");
        ScrapYard yard = Check.openYard(2, 5);
        yard.load(0, 0, 0, 1);
        yard.load(0, 0, 0, 1);
        yard.mix(0);
        yard.load(0, 1, 1, 2);
        yard.melt(4);
        Check.is("LOAD", yard.portion(0, 0, 1), -1);
        Check.is("prove", yard.prove(0, 3, 9000, 10000), 1);
        portionIs(yard, 0, 3, 8000, 10000);
        portionIs(yard, 1, 3, 8000, 10000);
        usualIs(yard, 0, 3, 0, 10000);
        usualIs(yard, 1, 3, 2000, 10000);
        yard.span(0, 3, 1, 2);
        usualIs(yard, 0, 3, 1, 2);
    }

    private static void eachSellersKind() {
        Edge.holds("Terms 6", "USUAL of that SELLER's KIND, of this METAL, is put right");
        ScrapYard yard = Check.openYard(2, 5);
        yard.seller();
        Check.contract(yard, "else pay 5;", 1, 0);
        yard.load(0, 1, 0, 1);
        yard.load(1, 0, 1, 1);
        yard.melt(2);
        Check.is("prove", yard.prove(0, 3, 9000, 10000), 1);
        Check.is("seller 0, kind 0", yard.usual(0, 0, 3, 0), 0);
        Check.is("seller 0, kind 1", yard.usual(0, 1, 3, 0), 2000);
        Check.is("seller 1, kind 0", yard.usual(1, 0, 3, 0), 2000);
        Check.is("seller 1, kind 1", yard.usual(1, 1, 3, 0), 0);
        Check.is("seller 0, kind 1, another METAL", yard.usual(0, 1, 4, 0), 0);
    }

    private static void nothingElseChanges() {
        Edge.holds("Terms 6", "(LOADS, LAYERS and MELTS that are there stay as they are.)");
        ScrapYard yard = oneOf(0, 100, 200);
        yard.melt(1);
        Check.is("prove", yard.prove(0, 0, 150, 160), 1);
        Check.is("the LOAD", yard.told(0, 6), 100);
        Check.is("its GRADE", yard.told(0, 4), 0);
        Check.is("the LAYER", yard.layer(0, 0, 3), 100);
        Check.is("the other MELT", yard.portion(1, 0, 2), 100);
        Check.is("money", yard.money(0), 25);
        Check.is("a sample of it", yard.sample(0, 0, 100, 120), 1);
        portionIs(yard, 0, 0, 150, 160);
    }
}
