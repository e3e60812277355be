/** Promises 17 to 20: what is asked for, the best charge, and melts of it. */
public final class ChargesTest {
    public static void main(String[] args) {
        cheapest();
        firstOfEquals();
        fromAbove();
        asked();
        askedEdges();
        melts();
        thirtyMelts();
        wrongCalls();
        Check.end();
    }

    private static void chargeIs(ScrapYard yard, int tons, int cost, int... due) {
        Check.is("best(" + tons + ")", yard.best(tons), cost);
        for (int heap = 0; heap < 6; heap++) {
            int dueTons = cost < 0 ? -1 : heap < due.length ? due[heap] : 0;
            Check.is("charge(" + tons + ", " + heap + ")", yard.charge(tons, heap), dueTons);
        }
    }

    /** Heaps 0, 1, .. each with one load of a pay and tons, KIND by heap. */
    private static ScrapYard yardOf(int... paysAndTons) {
        ScrapYard yard = Check.openYard(6, 0);
        for (int i = 0; i < paysAndTons.length / 2; i++) {
            Check.contract(yard, "else pay " + paysAndTons[2 * i] + ";", 0, 0);
            yard.load(0, i, i, paysAndTons[2 * i + 1]);
        }
        return yard;
    }

    private static void cheapest() {
        ScrapYard yard = yardOf(30, 5, 10, 3, 20, 4, 99999, 50);
        chargeIs(yard, 1, 10, 0, 1);
        chargeIs(yard, 5, 70, 0, 3, 2);
        chargeIs(yard, 12, 260, 5, 3, 4);
        chargeIs(yard, 20, 260 + 8 * 99999, 5, 3, 4, 8);
        chargeIs(yardOf(5, 19), 20, -1);
        chargeIs(yardOf(0, 20), 20, 0, 20);
        chargeIs(yardOf(99999, 20), 20, 1999980, 20);
        chargeIs(new ScrapYard(), 1, -1);
    }

    private static void firstOfEquals() {
        chargeIs(yardOf(7, 9, 7, 9, 7, 2), 4, 28, 0, 2, 2);
        chargeIs(yardOf(7, 9, 7, 9, 7, 2), 12, 84, 1, 9, 2);
        chargeIs(yardOf(0, 9, 0, 9, 0, 9, 0, 9, 0, 9, 0, 9), 20, 0, 0, 0, 0, 2, 9, 9);
    }

    private static void fromAbove() {
        ScrapYard yard = yardOf(50, 5, 20, 9);
        Check.contract(yard, "else pay 30;", 0, 0);
        yard.load(0, 2, 0, 1);
        Check.contract(yard, "else pay 1;", 0, 0);
        yard.load(0, 2, 2, 10);
        Check.contract(yard, "else pay 400;", 0, 0);
        yard.load(0, 2, 2, 1);
        chargeIs(yard, 11, 50 + 180 + 30, 2, 9);
        chargeIs(yard, 19, 400 + 10 + 8 * 20, 0, 8, 11);
    }

    private static void asked() {
        ScrapYard yard = yardOf(10, 20, 20, 20, 50, 20);
        yard.span(0, 0, 0, 400);
        yard.span(1, 0, 0, 200);
        yard.span(2, 0, 0, 100);
        yard.sample(0, 0, 0, 400);
        yard.sample(1, 0, 50, 200);
        yard.sample(2, 0, 100, 100);
        chargeIs(yard, 4, 40, 4);
        Check.is("asked", yard.asked(0, 0, 300), 1);
        chargeIs(yard, 4, 60, 2, 2);
        chargeIs(yard, 3, 50, 1, 2);
        yard.asked(0, 50, 200);
        chargeIs(yard, 4, 80, 0, 4);
        chargeIs(yard, 3, 60, 0, 3);
        yard.asked(0, 60, 250);
        chargeIs(yard, 5, 130, 0, 4, 1);
        yard.asked(0, 60, 199);
        chargeIs(yard, 3, 90, 0, 2, 1);
        yard.asked(0, 101, 10000);
        chargeIs(yard, 3, -1);
        Check.is("melt", yard.melt(3), -1);
        yard.asked(0, 0, 10000);
        chargeIs(yard, 4, 40, 4);
        yard.asked(4, 0, 9999);
        chargeIs(yard, 1, -1);
    }

    private static void askedEdges() {
        for (int metal = 0; metal < 5; metal++) {
            ScrapYard yard = yardOf(10, 20, 20, 20);
            yard.sample(0, metal, 300, 500);
            yard.sample(1, metal, 400, 600);
            yard.asked(metal, 300, 500);
            chargeIs(yard, 10, 100, 10);
            yard.asked(metal, 301, 600);
            chargeIs(yard, 10, 110, 9, 1);
            yard.asked(metal, 310, 510);
            chargeIs(yard, 10, 110, 9, 1);
            yard.asked(metal, 311, 511);
            chargeIs(yard, 10, -1);
            yard.asked(metal, 0, 499);
            chargeIs(yard, 10, -1);
            yard.asked(metal, 400, 600);
            chargeIs(yard, 10, 200, 0, 10);
        }
    }

    private static void melts() {
        ScrapYard yard = yardOf(30, 5, 10, 3, 20, 4);
        yard.load(0, 3, 1, 2);
        yard.sample(3, 2, 11, 12);
        Check.is("melt", yard.melt(7), 0);
        int[] loads = {3, 1, 2};
        int[] tons = {2, 3, 2};
        Check.is("portions", yard.portions(0), 3);
        for (int k = 0; k < 3; k++) {
            Check.is("LOAD", yard.portion(0, k, 1), loads[k]);
            Check.is("TONS", yard.portion(0, k, 0), tons[k]);
        }
        Check.is("LOW", yard.portion(0, 0, 6), 11);
        Check.is("HIGH", yard.portion(0, 0, 7), 12);
        Check.is("HIGH of another", yard.portion(0, 1, 7), 10000);
        Check.is("tons(0)", yard.tons(0), 5);
        Check.is("tons(1)", yard.tons(1), 0);
        Check.is("layers(1)", yard.layers(1), 0);
        Check.is("tons(2)", yard.tons(2), 2);
        Check.is("melt", yard.melt(7), 1);
        Check.is("melt of nothing", yard.melt(1), -1);
        Check.is("count(7)", yard.count(7), 14);
    }

    private static void thirtyMelts() {
        ScrapYard yard = yardOf(1, 50);
        for (int i = 0; i < 30; i++) {
            Check.is("melt", yard.melt(1), i);
        }
        Check.is("a 31st", yard.melt(1), -2);
        Check.is("nothing given", yard.tons(0), 20);
        Check.is("best goes on", yard.best(20), 20);
        Check.isThrown("a 31st of 21", IllegalArgumentException.class, () -> yard.melt(21));
        yard.asked(0, 0, 1);
        Check.is("none is GOOD, told ahead of it", yard.melt(1), -1);
    }

    private static void wrongCalls() {
        ScrapYard yard = yardOf(1, 50);
        Class<IllegalArgumentException> wrong = IllegalArgumentException.class;
        int[] noTons = {0, 21, -1, Integer.MIN_VALUE, Integer.MAX_VALUE};
        for (int tons : noTons) {
            Check.isThrown("best", wrong, () -> yard.best(tons));
            Check.isThrown("charge", wrong, () -> yard.charge(tons, 0));
            Check.isThrown("melt", wrong, () -> yard.melt(tons));
        }
        Check.isThrown("charge: HEAP -1", wrong, () -> yard.charge(1, -1));
        Check.isThrown("charge: HEAP 6", wrong, () -> yard.charge(1, 6));
        Check.isThrown("charge of none: HEAP 6", wrong, () -> new ScrapYard().charge(1, 6));
        Check.isThrown("asked: METAL -1", wrong, () -> yard.asked(-1, 0, 0));
        Check.isThrown("asked: METAL 5", wrong, () -> yard.asked(5, 0, 0));
        Check.isThrown("asked: LOW -1", wrong, () -> yard.asked(0, -1, 0));
        Check.isThrown("asked: HIGH 10001", wrong, () -> yard.asked(0, 0, 10001));
        Check.isThrown("asked: LOW above HIGH", wrong, () -> yard.asked(0, 1, 0));
        Check.is("nothing changed", yard.best(1), 1);
    }
}
