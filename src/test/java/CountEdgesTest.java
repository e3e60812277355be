/** Edges of promises 24 to 26: money, days and counts. */
public final class CountEdgesTest {
    public static void main(String[] args) {
        sellersOfMoney();
        paidInAll();
        daysThatGoBy();
        daysRefused();
        lastDay();
        lastDayPassed();
        countsOfABusyYard();
        countsAtTheirMost();
        noOtherCounts();
        Check.end();
    }

    private static void sellersOfMoney() {
        Edge.holds("Promise 24", "NoSuchElementException: no such SELLER.");
        for (int seller : new int[] {-1, 2, Edge.LEAST, Edge.MOST}) {
            Edge.throwsOnly("money(" + seller + ")", Edge.MISSING, Yards::busy, y -> y.money(seller));
        }
        Check.is("the first", Yards.busy().money(0), 10 * 9 + 5 * 4 + 2 * 4 + 3 * 9);
        Check.is("the last", Yards.busy().money(1), 27 * 6);
    }

    private static void paidInAll() {
        Edge.holds("Promise 24", "What a SELLER was paid in all.");
        ScrapYard yard = Check.openYard(1, 99999);
        yard.seller();
        Check.is("nothing yet", yard.money(0), 0);
        for (int i = 0; i < 100; i++) {
            yard.mix(0);
            Check.is("load", yard.load(0, 0, 0, 50), i);
        }
        Check.is("the most", yard.money(0), 100L * 50 * 99999);
        Check.is("the other's", yard.money(1), 0);
        yard.melt(20);
        Check.is("a MELT costs nothing more", yard.money(0), 100L * 50 * 99999);
    }

    private static void daysThatGoBy() {
        Edge.holds("Promise 25", "So many DAYS go by: the DAY.");
        ScrapYard yard = new ScrapYard();
        Check.is("none", yard.day(0), 0);
        Check.is("one", yard.day(1), 1);
        Check.is("none", yard.day(0), 1);
        Check.is("1,000", yard.day(1000), 1001);
        Check.is("999", yard.day(999), 2000);
    }

    private static void daysRefused() {
        Edge.holds("Promise 25", "IllegalArgumentException: they are not 0 to 1,000");
        for (int days : new int[] {-1, 1001, -1000, Edge.LEAST, Edge.MOST}) {
            Edge.throwsOnly("day(" + days + ")", Edge.WRONG, Yards::busy, y -> y.day(days));
            Check.isThrown("of a new yard", Edge.WRONG, () -> new ScrapYard().day(days));
        }
    }

    private static ScrapYard lateYard(int day) {
        ScrapYard yard = Check.openYard(1, 1);
        for (int i = 0; i < day / 1000; i++) {
            yard.day(1000);
        }
        yard.day(day % 1000);
        return yard;
    }

    private static void lastDay() {
        Edge.holds("Promise 25", "or it would be above 10,000.");
        Check.is("1,000 from 9,000 on", lateYard(9000).day(1000), 10000);
        Check.is("999 from 9,001 on", lateYard(9001).day(999), 10000);
        Check.is("1 from 9,999 on", lateYard(9999).day(1), 10000);
        Check.is("0 from 10,000 on", lateYard(10000).day(0), 10000);
        ScrapYard yard = lateYard(10000);
        Check.is("a LOAD of that DAY", yard.load(0, 0, 0, 1), 0);
        Check.is("the DAY it came", yard.told(0, 3), 10000);
    }

    private static void lastDayPassed() {
        Edge.holds("Promise 25", "or it would be above 10,000.");
        Edge.throwsOnly("1,000 from 9,001 on", Edge.WRONG, () -> lateYard(9001), y -> y.day(1000));
        Edge.throwsOnly("2 from 9,999 on", Edge.WRONG, () -> lateYard(9999), y -> y.day(2));
        Edge.throwsOnly("1 from 10,000 on", Edge.WRONG, () -> lateYard(10000), y -> y.day(1));
        Edge.throwsOnly("1,000 from 10,000 on", Edge.WRONG, () -> lateYard(10000), y -> y.day(1000));
    }

    private static void countsOfABusyYard() {
        Edge.holds("Promise 26", "0 KINDS, 1 SELLERS, 2 CONTRACTS, 3 LOADS, 4 LAYERS in all HEAPS, 5 MELTS, 6 TONS in all HEAPS,"
                + " 7 TONS in MELTS, 8 bytes of the TAPE");
        int[] due = {3, 2, 3, 6, 4, 3, 18, 29, 40};
        for (int what = 0; what <= 8; what++) {
            Check.is("count(" + what + ")", Yards.busy().count(what), due[what]);
            Check.is("of a new yard", new ScrapYard().count(what), 0);
        }
    }

    private static void countsAtTheirMost() {
        Edge.holds("Promise 26", "0 KINDS, 1 SELLERS, 2 CONTRACTS, 3 LOADS, 4 LAYERS in all HEAPS, 5 MELTS, 6 TONS in all HEAPS,"
                + " 7 TONS in MELTS, 8 bytes of the TAPE");
        Check.is("KINDS", Yards.withKinds(11).count(0), 10);
        Check.is("SELLERS", Yards.withSellers(9).count(1), 8);
        Check.is("CONTRACTS", Yards.withContracts(20).count(2), 20);
        Check.is("LOADS", Yards.withLoads(101).count(3), 100);
        Check.is("LAYERS", Yards.withLayers(41).count(4), 40);
        Check.is("MELTS", Yards.withMelts(31).count(5), 30);
        Check.is("TONS that are left", Yards.withMelts(31).count(6), 20);
        Check.is("TONS in MELTS", Yards.withMelts(31).count(7), 30);
        ScrapYard yard = Check.openYard(1, 1);
        for (int i = 0; i < 100; i++) {
            yard.mix(i % 6);
            yard.load(0, 0, i % 6, 50);
        }
        Check.is("TONS", yard.count(6), 5000);
        for (int i = 0; i < 30; i++) {
            yard.melt(20);
        }
        Check.is("TONS in MELTS of 20", yard.count(7), 600);
        Check.is("TONS that are left", yard.count(6), 4400);
    }

    private static void noOtherCounts() {
        Edge.holds("Promise 26", "NONE for others.");
        for (int what : new int[] {-1, 9, 10, Edge.LEAST, Edge.MOST}) {
            Edge.leavesAll("count(" + what + ")", -1, Yards::busy, y -> y.count(what));
        }
    }
}
