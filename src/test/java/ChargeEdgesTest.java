import java.util.Arrays;

/** Edges of promises 17 to 20 and of ==== 5.: what is asked for, charges and melts. */
public final class ChargeEdgesTest {
    public static void main(String[] args) {
        metalsAndSpansOfAsked();
        askedAtFirst();
        tonsOfBest();
        noneIsGood();
        leastAndGreatestCost();
        tonsAndHeapsOfCharge();
        noneInCharge();
        lowAsked();
        highAsked();
        askedOfEachHeap();
        missedByOne();
        eachMetalCounts();
        asTheyGive();
        firstOfEqualCost();
        leastCostAheadOfFirst();
        tonsOfMelt();
        noneIsGoodToMelt();
        thirtyMelts();
        noneIsGoodOfThirty();
        givenHeapByHeap();
        portionsAsTheyWere();
        dearestSearches();
        Check.end();
    }

    private static ScrapYard oneLoad(int tons) {
        ScrapYard yard = Check.openYard(1, 5);
        yard.load(0, 0, 0, tons);
        return yard;
    }

    private static void chargeIs(ScrapYard yard, int tons, int... due) {
        int[] got = new int[6];
        for (int heap = 0; heap < 6; heap++) {
            got[heap] = yard.charge(tons, heap);
        }
        if (!Arrays.equals(got, Arrays.copyOf(due, 6))) {
            Check.tell("charge(" + tons + ", ..) is " + Arrays.toString(got) + ", due is " + Arrays.toString(due));
        }
    }

    private static void metalsAndSpansOfAsked() {
        Edge.holds("Promise 17", "ASKED: 1. IllegalArgumentException as span().");
        for (int metal : Edge.NO_METALS) {
            Edge.throwsOnly("asked(" + metal + ", 0, 0)", Edge.WRONG, Yards::busy, y -> y.asked(metal, 0, 0));
        }
        for (int[] span : Edge.NO_SPANS) {
            for (int i : new int[] {0, 4}) {
                int metal = i;
                Edge.throwsOnly("asked(" + metal + ", " + span[0] + ", " + span[1] + ")", Edge.WRONG, Yards::busy,
                        y -> y.asked(metal, span[0], span[1]));
            }
        }
        for (int metal = 0; metal < 5; metal++) {
            for (int[] span : Edge.SPANS) {
                ScrapYard yard = Check.openYard(1, 5);
                yard.span(0, metal, span[0], span[1]);
                yard.load(0, 0, 0, 20);
                Check.is("asked", yard.asked(metal, span[0], span[1]), 1);
                Check.is("best(20), just within", yard.best(20), 100);
            }
        }
    }

    private static void askedAtFirst() {
        Edge.holds("Terms 5", "ASKED for each METAL: a SPAN, 0 to 10,000 at first.");
        ScrapYard yard = oneLoad(20);
        Check.is("all is within", yard.best(20), 100);
        for (int metal = 0; metal < 5; metal++) {
            yard.asked(metal, 0, 9999);
            Check.is("HIGH 9,999", yard.best(20), -1);
            yard.asked(metal, 1, 10000);
            Check.is("LOW 1", yard.best(20), -1);
            yard.asked(metal, 0, 10000);
            Check.is("as at first", yard.best(20), 100);
        }
    }

    private static void tonsOfBest() {
        Edge.holds("Promise 18", "IllegalArgumentException: T is not 1 to 20.");
        for (int tons : Edge.NO_CHARGE_TONS) {
            Edge.throwsOnly("best(" + tons + ")", Edge.WRONG, Yards::busy, y -> y.best(tons));
            Check.isThrown("of a new yard", Edge.WRONG, () -> new ScrapYard().best(tons));
        }
        Edge.holds("Terms 5", "A CHARGE of T tons (1 to 20)");
        for (int tons = 1; tons <= 20; tons++) {
            Check.is("best(" + tons + ")", oneLoad(50).best(tons), 5 * tons);
        }
    }

    private static void noneIsGood() {
        Edge.holds("Promise 18", "NONE: none is GOOD.");
        Check.is("of nothing", new ScrapYard().best(1), -1);
        for (int tons = 1; tons <= 19; tons++) {
            Check.is("all there is", oneLoad(tons).best(tons), 5 * tons);
            Edge.leavesAll("a ton more than there is", -1, smallYard(tons), bestOf(tons + 1));
        }
        ScrapYard yard = Check.openYard(1, 5);
        for (int heap = 0; heap < 6; heap++) {
            yard.load(0, 0, heap, 3);
        }
        Check.is("all of all HEAPS", yard.best(18), 90);
        Check.is("a ton more", yard.best(19), -1);
    }

    private static Edge.Made smallYard(int tons) {
        return () -> oneLoad(tons);
    }

    private static Edge.Ask bestOf(int tons) {
        return yard -> yard.best(tons);
    }

    private static void leastAndGreatestCost() {
        Edge.holds("Promise 18", "The COST of the BEST CHARGE");
        ScrapYard yard = Check.openYard(1, 0);
        yard.load(0, 0, 0, 20);
        Check.is("for nothing", yard.best(20), 0);
        Check.is("its TONS", yard.charge(20, 0), 20);
        yard = Check.openYard(1, 99999);
        yard.load(0, 0, 0, 20);
        Check.is("the dearest", yard.best(20), 20 * 99999);
        Check.is("of one ton", yard.best(1), 99999);
    }

    private static void tonsAndHeapsOfCharge() {
        Edge.holds("Promise 19", "IllegalArgumentException: T, or no such HEAP.");
        for (int tons : Edge.NO_CHARGE_TONS) {
            Edge.throwsOnly("charge(" + tons + ", 0)", Edge.WRONG, Yards::busy, y -> y.charge(tons, 0));
        }
        for (int heap : Edge.NO_HEAPS) {
            Edge.throwsOnly("charge(1, " + heap + ")", Edge.WRONG, Yards::busy, y -> y.charge(1, heap));
            Check.isThrown("where none is GOOD", Edge.WRONG, () -> new ScrapYard().charge(1, heap));
        }
        for (int heap = 0; heap <= 5; heap++) {
            ScrapYard yard = Check.openYard(1, 5);
            yard.load(0, 0, heap, 20);
            for (int other = 0; other <= 5; other++) {
                Check.is("charge(20, " + other + ")", yard.charge(20, other), other == heap ? 20 : 0);
                Check.is("charge(1, " + other + ")", yard.charge(1, other), other == heap ? 1 : 0);
            }
        }
    }

    private static void noneInCharge() {
        Edge.holds("Promise 19", "NONE likewise");
        for (int i = 0; i <= 5; i++) {
            int heap = i;
            Edge.leavesAll("charge(20, " + heap + ") of 19", -1, () -> oneLoad(19), y -> y.charge(20, heap));
            Check.is("charge of nothing", new ScrapYard().charge(1, heap), -1);
        }
        ScrapYard yard = oneLoad(19);
        Check.is("one that can be", yard.charge(19, 0), 19);
        Check.is("one that can't, behind it", yard.charge(20, 0), -1);
    }

    /** Heap 0: 3 tons with 100 to 200 of a METAL; heap 1: 2 tons with 105 to 210. */
    private static ScrapYard twoHeaps(int metal) {
        ScrapYard yard = Check.openYard(2, 5);
        yard.span(0, metal, 100, 200);
        yard.span(1, metal, 105, 210);
        yard.load(0, 0, 0, 3);
        yard.load(0, 1, 1, 2);
        return yard;
    }

    private static void lowAsked() {
        Edge.holds("Terms 5", "It is GOOD if for each METAL the sum of LOW * TONS is LOW asked * T or more");
        for (int metal = 0; metal < 5; metal++) {
            ScrapYard yard = twoHeaps(metal);
            // 3 * 100 + 2 * 105 is 5 * 102
            yard.asked(metal, 102, 10000);
            Check.is("just as much", yard.best(5), 25);
            yard.asked(metal, 103, 10000);
            Check.is("less", yard.best(5), -1);
            yard.asked(metal, 101, 10000);
            Check.is("more", yard.best(5), 25);
            yard.asked(metal, 105, 10000);
            chargeIs(yard, 2, 0, 2);
            yard.asked(metal, 106, 10000);
            Check.is("too much for each", yard.best(1), -1);
        }
    }

    private static void highAsked() {
        Edge.holds("Terms 5", "the sum of HIGH * TONS is HIGH asked * T or less");
        for (int metal = 0; metal < 5; metal++) {
            ScrapYard yard = twoHeaps(metal);
            // 3 * 200 + 2 * 210 is 5 * 204
            yard.asked(metal, 0, 204);
            Check.is("just as much", yard.best(5), 25);
            yard.asked(metal, 0, 203);
            Check.is("more", yard.best(5), -1);
            yard.asked(metal, 0, 205);
            Check.is("less", yard.best(5), 25);
            yard.asked(metal, 0, 200);
            chargeIs(yard, 3, 3, 0);
            yard.asked(metal, 0, 199);
            Check.is("too little for each", yard.best(1), -1);
        }
    }

    /** One HEAP has what is asked for, five cheaper ones do not; then two that have it together. */
    private static void askedOfEachHeap() {
        Edge.holds("Terms 5", "of each HEAP some TONS as it would give them, T together. It is GOOD if for each METAL");
        for (int heap = 0; heap < 6; heap++) {
            ScrapYard yard = Check.openYard(2, 1);
            yard.span(1, 4, 5000, 6000);
            for (int other = 0; other < 6; other++) {
                if (other != heap) {
                    yard.load(0, 0, other, 20);
                }
            }
            Check.contract(yard, "else pay 9;", 0, 0);
            yard.load(0, 1, heap, 20);
            int[] due = new int[6];
            due[heap] = 20;
            yard.asked(4, 5000, 10000);
            chargeIs(yard, 20, due);
            yard.asked(4, 0, 6000);
            chargeIs(yard, 20, due);
            due[heap] = 10;
            due[heap == 5 ? 4 : 5] = 10;
            yard.asked(4, 2500, 8000);
            chargeIs(yard, 20, due);
        }
    }

    private static void missedByOne() {
        Edge.holds("Terms 5", "the sum of LOW * TONS is LOW asked * T or more, and the sum of HIGH * TONS is HIGH asked * T or less");
        ScrapYard yard = Check.openYard(2, 5);
        yard.span(0, 3, 100, 200);
        yard.span(1, 3, 101, 201);
        yard.load(0, 0, 0, 1);
        yard.load(0, 1, 1, 1);
        // 201 and 401 of two tons
        yard.asked(3, 100, 201);
        Check.is("within", yard.best(2), 10);
        yard.asked(3, 101, 201);
        Check.is("LOW one less", yard.best(2), -1);
        yard.asked(3, 100, 200);
        Check.is("HIGH one more", yard.best(2), -1);
    }

    private static void eachMetalCounts() {
        Edge.holds("Terms 5", "It is GOOD if for each METAL");
        ScrapYard yard = Check.openYard(1, 5);
        for (int metal = 0; metal < 5; metal++) {
            yard.span(0, metal, 100, 200);
            yard.asked(metal, 100, 200);
        }
        yard.load(0, 0, 0, 7);
        Check.is("all just within", yard.best(7), 35);
        for (int metal = 0; metal < 5; metal++) {
            yard.asked(metal, 101, 200);
            Check.is("one LOW missed", yard.best(7), -1);
            yard.asked(metal, 100, 199);
            Check.is("one HIGH missed", yard.best(7), -1);
            yard.asked(metal, 100, 200);
        }
        Check.is("all just within again", yard.best(7), 35);
    }

    private static void asTheyGive() {
        Edge.holds("Terms 5", "of each HEAP some TONS as it would give them, T together");
        ScrapYard yard = Check.openYard(1, 1);
        yard.load(0, 0, 0, 10);
        Check.contract(yard, "else pay 50;", 0, 0);
        yard.load(0, 0, 0, 2);
        Check.contract(yard, "else pay 20;", 0, 0);
        yard.load(0, 0, 1, 10);
        Check.is("one below is not had alone", yard.best(1), 20);
        chargeIs(yard, 5, 0, 5);
        Check.is("5 of the other", yard.best(5), 100);
        // 2 * 50 + 3 * 1 is 103, 2 * 50 + 4 * 1 is less than 6 * 20
        Check.is("from above", yard.best(6), 104);
        chargeIs(yard, 6, 6);
        chargeIs(yard, 13, 12, 1);
    }

    private static void firstOfEqualCost() {
        Edge.holds("Terms 5", "of these the first one (by the TONS of HEAP 0, then of HEAP 1 ..)");
        ScrapYard yard = Check.openYard(1, 5);
        for (int heap = 0; heap < 6; heap++) {
            yard.load(0, 0, heap, 4);
        }
        chargeIs(yard, 1, 0, 0, 0, 0, 0, 1);
        chargeIs(yard, 4, 0, 0, 0, 0, 0, 4);
        chargeIs(yard, 5, 0, 0, 0, 0, 1, 4);
        chargeIs(yard, 8, 0, 0, 0, 0, 4, 4);
        chargeIs(yard, 9, 0, 0, 0, 1, 4, 4);
        chargeIs(yard, 17, 0, 1, 4, 4, 4, 4);
        chargeIs(yard, 20, 0, 4, 4, 4, 4, 4);
        yard.move(5, 0, 4);
        chargeIs(yard, 20, 4, 4, 4, 4, 4, 0);
    }

    private static void leastCostAheadOfFirst() {
        Edge.holds("Terms 5", "BEST: of the GOOD ones the one with the least COST (sum of COST * TONS)");
        ScrapYard yard = Check.openYard(1, 5);
        yard.load(0, 0, 0, 20);
        Check.contract(yard, "else pay 6;", 0, 0);
        yard.load(0, 0, 5, 20);
        chargeIs(yard, 20, 20);
        chargeIs(yard, 1, 1);
        yard.asked(0, 0, 5000);
        yard.sample(1, 0, 0, 5000);
        chargeIs(yard, 20, 0, 0, 0, 0, 0, 20);
        yard.asked(0, 0, 9750);
        // 19 * 10000 + 5000 is 20 * 9750
        chargeIs(yard, 20, 19, 0, 0, 0, 0, 1);
        yard.asked(0, 0, 9749);
        chargeIs(yard, 20, 18, 0, 0, 0, 0, 2);
    }

    private static void tonsOfMelt() {
        Edge.holds("Promise 20", "IllegalArgumentException: T.");
        for (int tons : Edge.NO_CHARGE_TONS) {
            Edge.throwsOnly("melt(" + tons + ")", Edge.WRONG, Yards::busy, y -> y.melt(tons));
            Edge.throwsOnly("of 30 MELTS", Edge.WRONG, () -> Yards.withMelts(30), y -> y.melt(tons));
            Check.isThrown("of nothing", Edge.WRONG, () -> new ScrapYard().melt(tons));
        }
        for (int tons : new int[] {1, 20}) {
            ScrapYard yard = oneLoad(20);
            Check.is("melt(" + tons + ")", yard.melt(tons), 0);
            Check.is("what is left", yard.tons(0), 20 - tons);
            Check.is("count(7)", yard.count(7), tons);
        }
    }

    private static void noneIsGoodToMelt() {
        Edge.holds("Promise 20", "-1: none is GOOD");
        Edge.leavesAll("melt(20) of 19", -1, () -> oneLoad(19), y -> y.melt(20));
        Edge.leavesAll("melt(20) of a busy yard", -1, Yards::busy, y -> y.melt(20));
        Edge.leavesAll("melt(1) of nothing", -1, ScrapYard::new, y -> y.melt(1));
        ScrapYard yard = oneLoad(20);
        yard.asked(4, 0, 9999);
        Check.is("what is asked for is not to be had", yard.melt(1), -1);
        Check.is("nothing is given", yard.tons(0), 20);
        yard.asked(4, 0, 10000);
        Check.is("then", yard.melt(1), 0);
    }

    private static void thirtyMelts() {
        Edge.holds("Promise 20", "MELTED: the MELT's number; -1: none is GOOD; -2: there are 30.");
        ScrapYard yard = oneLoad(50);
        for (int i = 0; i < 30; i++) {
            Check.is("melt", yard.melt(1), i);
        }
        Check.is("the 31st", yard.melt(1), -2);
        Check.is("again", yard.melt(20), -2);
        Check.is("nothing is given", yard.tons(0), 20);
        Check.is("count(5)", yard.count(5), 30);
        Edge.leavesAll("the 31st", -2, () -> Yards.withMelts(30), y -> y.melt(1));
        Edge.holds("Terms 5", "MELTS: 30 at most.");
        Check.is("the 30th", yard.portions(29), 1);
        Check.is("the BEST is told on", yard.best(20), 100);
    }

    /** Where both hold, the one that the document lists first. */
    private static void noneIsGoodOfThirty() {
        Edge.holds("Promise 20", "-1: none is GOOD; -2: there are 30.");
        ScrapYard yard = Yards.withMelts(30);
        Check.is("20 of 20 tons", yard.melt(20), -2);
        yard.asked(0, 1, 10000);
        Check.is("none is GOOD", yard.melt(20), -1);
    }

    private static void givenHeapByHeap() {
        Edge.holds("Terms 5", "the BEST CHARGE of T tons is given, HEAP by HEAP; what was given, LAYER by LAYER, are the MELT's PORTIONS");
        ScrapYard yard = Check.openYard(1, 5);
        yard.load(0, 0, 5, 2);
        yard.load(0, 0, 0, 3);
        yard.load(0, 0, 0, 1);
        yard.load(0, 0, 3, 4);
        yard.load(0, 0, 3, 5);
        Check.is("melt", yard.melt(15), 0);
        int[][] due = {{1, 2}, {3, 1}, {5, 4}, {4, 3}, {2, 0}};
        Check.is("portions", yard.portions(0), 5);
        for (int k = 0; k < 5; k++) {
            Check.is("TONS of " + k, yard.portion(0, k, 0), due[k][0]);
            Check.is("LOAD of " + k, yard.portion(0, k, 1), due[k][1]);
        }
        Check.is("nothing is left", yard.count(6), 0);
        Check.is("no LAYER is left", yard.count(4), 0);
    }

    private static void portionsAsTheyWere() {
        Edge.holds("Terms 5", "TONS, LOAD, SPANS, as they were");
        ScrapYard yard = Check.openYard(1, 5);
        yard.load(0, 0, 0, 6);
        yard.sample(0, 1, 40, 50);
        yard.melt(4);
        Check.is("LOW", yard.portion(0, 0, 4), 40);
        Check.is("HIGH", yard.portion(0, 0, 5), 50);
        Check.is("TONS", yard.portion(0, 0, 0), 4);
        Check.is("TONS of the rest", yard.layer(0, 0, 0), 2);
        yard.sample(0, 1, 45, 45);
        yard.span(0, 1, 1, 2);
        Check.is("LOW stays", yard.portion(0, 0, 4), 40);
        Check.is("LOW of the rest", yard.layer(0, 0, 5), 45);
        yard.melt(2);
        Check.is("LOW of the next MELT", yard.portion(1, 0, 4), 45);
        Check.is("TONS of the LOAD", yard.told(0, 2), 6);
    }

    /** 512 calls that each look through many charges end, and do not wear the yard out. */
    private static void dearestSearches() {
        Edge.holds("Promise 18", "The COST of the BEST CHARGE; NONE: none is GOOD.");
        ScrapYard yard = Check.openYard(6, 5);
        for (int i = 0; i < 36; i++) {
            yard.span(i % 6, i / 6 % 5, 100 * (i % 6), 5000 + 100 * (5 - i % 6));
            yard.load(0, i % 6, i % 6, 2);
        }
        for (int metal = 0; metal < 5; metal++) {
            yard.asked(metal, 240, 5300);
        }
        int first = yard.best(12);
        for (int i = 0; i < 400; i++) {
            Check.is("best(12)", yard.best(12), first);
        }
    }
}
